/-! ===== the reference: tapes ===== -/
def MT (T : TS) (a : zA) (j : zJ) : Prop := ∀ t, t < 6 → a 104 (nI t) = (T t).1 ∧ a 105 (nI t) = nI (T t).2.1 ∧ ∀ i, i < (T t).2.1 → j 106 (nI (60 * t + i)) = (T t).2.2 i
theorem MT.up {T : TS} {a a' : zA} {j j' : zJ} (h : MT T a j) (hV : VT T) {t : Nat} {x : Int32 × Nat × (Nat → Int64)} (h1 : a' 104 (nI t) = x.1) (h2 : a' 105 (nI t) = nI x.2.1) (h3 : ∀ i, i < x.2.1 → j' 106 (nI (60 * t + i)) = x.2.2 i) (ha : ∀ u, u < 6 → u ≠ t → a' 104 (nI u) = a 104 (nI u) ∧ a' 105 (nI u) = a 105 (nI u)) (hj : ∀ p, p < 360 → (p < 60 * t ∨ 60 * t + 60 ≤ p) → j' 106 (nI p) = j 106 (nI p)) : MT (tup T t x) a' j' := by
  intro k hk
  by_cases q : k = t
  · rw [q, tup_eq]; exact ⟨h1, h2, h3⟩
  · rw [tup_ne q, (ha k hk q).1, (ha k hk q).2]
    have h60 := hV.le hk
    refine ⟨(h k hk).1, (h k hk).2.1, fun i hi => ?_⟩
    rw [hj _ (by omega) (by omega)]
    exact (h k hk).2.2 i hi
theorem m_isTape {sc : Int32 × (Int32 → Int32)} {f : zF} {a : zA} {j : zJ} {d : Nat} {v : Int32} : cf sc (d + 2) 176 [.int v] f a j = some (some (.int (zb (zBtw v 0 5))), f, a, j) := by
  rw [en176]
  simp only [q176_0, q176_1, q176_2, q176_3, q176_6, q176_9, in05, zb_okT, zCall_some, Option.toList, List.cons_append, List.nil_append, zb_0, zb_1, zem, z01, z11, nI_add, ↓reduceIte, not_true_eq_false, not_false_eq_true, n0T, n1F, n11T, true_or, or_true, false_or]
theorem tp_zero {sc : Int32 × (Int32 → Int32)} {F : zCF} {f : zF} {a : zA} {j : zJ} {t : Nat} {v2 v3 : Value} (ht : t < 6) : ∃ j' : zJ, rn sc F 177 75 [.ref 85, .int (nI t), v2, v3, .int (nI 0)] [] f a j = some (some (.int (nI 1)), f, a, j') ∧ (∀ i, i < 60 → j' 106 (nI (60 * t + i)) = 0) ∧ (∀ p, p < 360 → (p < 60 * t ∨ 60 * t + 60 ≤ p) → j' 106 (nI p) = j 106 (nI p)) ∧ ∀ k, k ≠ 106 → j' k = j k := by
  have key := zLoopP (n := 60) (g := fun s : (Nat × zJ) => rn sc F 177 75 [.ref 85, .int (nI t), v2, v3, .int (nI s.1)] [] f a s.2) (P := fun i s => s.1 = i ∧ (∀ q, q < i → s.2 106 (nI (60 * t + q)) = 0) ∧ (∀ p, p < 360 → (p < 60 * t ∨ 60 * t + 60 ≤ p) → s.2 106 (nI p) = j 106 (nI p)) ∧ ∀ k, k ≠ 106 → s.2 k = j k) (by
    intro i s hi hP
    obtain ⟨i', j1⟩ := s
    obtain ⟨rfl, g1, g2, g3⟩ := hP
    dsimp only at g1 g2 g3 hi
    have c1 : ¬ nI 60 ≤ nI i' := nI_ge hi (by omega)
    have ix : zIx 22 106 (nI (60 * t + i')) := ix106 (by omega)
    refine ⟨(i' + 1, zuJ j1 106 (nI (60 * t + i')) 0), ⟨rfl, fun q hq => ?_, fun p hp hp2 => ?_, fun k hk => ?_⟩, ?_⟩
    · dsimp only
      by_cases e : q = i'
      · rw [e]; exact zuJ_eq
      · rw [zuJ_ni (nI_ne (by omega) (by omega) (by omega))]; exact g1 q (by omega)
    · dsimp only
      rw [zuJ_ni (nI_ne (by omega) (by omega) (by omega))]; exact g2 p hp hp2
    · dsimp only
      rw [zuJ_nk hk]; exact g3 k hk
    · dsimp only
      rw [q177_75]
      simp only [q177_0, q177_1, q177_4, q177_7, q177_8, q177_9, q177_10, q177_11, q177_14, q177_17, q177_20, q177_23, q177_24, q177_25, q177_28, q177_29, q177_31, q177_34, q177_36, q177_37, q177_38, q177_39, q177_42, q177_43, q177_46, q177_48, q177_49, q177_50, q177_53, q177_54, q177_55, q177_56, q177_57, q177_60, q177_61, q177_62, q177_63, q177_66, q177_67, q177_70, q177_71, q177_72, q177_73, q177_77, q177_79, q177_82, q177_83, q177_86, q177_88, q177_89, q177_90, q177_92, q177_93, q177_94, q177_95, q177_98, q177_101, q177_102, c1, pk_mul, ix, zCall_some, Option.toList, List.cons_append, List.nil_append, zb_0, zb_1, zem, z01, z11, nI_add, ↓reduceIte, not_true_eq_false, not_false_eq_true, n0T, n1F, n11T, true_or, or_true, false_or]) (0, j) ⟨rfl, fun q hq => by omega, fun _ _ _ => rfl, fun _ _ => rfl⟩
  obtain ⟨⟨i, j1⟩, ⟨hi, g1, g2, g3⟩, e⟩ := key
  dsimp only at g1 g2 g3 hi e
  rw [hi] at e
  refine ⟨j1, ?_, g1, g2, g3⟩
  have c1 : nI 60 ≤ nI 60 := nI_le (Nat.le_refl _) (by omega)
  refine Eq.trans (show _ = _ from e) ?_
  simp only [q177_75, q177_77, q177_79, q177_101, q177_102, c1, zCall_some, Option.toList, List.cons_append, List.nil_append, zb_0, zb_1, zem, z01, z11, nI_add, ↓reduceIte, not_true_eq_false, not_false_eq_true, n0T, n1F, n11T, true_or, or_true, false_or]
theorem y_tape {sc : Int32 × (Int32 → Int32)} {f : zF} {a : zA} {j : zJ} {d : Nat} {T : TS} {v s n : Int32} (hT : MT T a j) (hV : VT T) : ∃ (a' : zA) (j' : zJ), cf sc (d + 3) 177 [.ref 85, .int v, .int s, .int n] f a j = some (some (.int (tpS T v s n).1), f, a', j') ∧ MT (tpS T v s n).2 a' j' ∧ (∀ k, k ≠ 104 → k ≠ 105 → a' k = a k) ∧ ∀ k, k ≠ 106 → j' k = j k := by
  rw [en177]
  unfold tpS
  by_cases hv : zBtw v 0 5
  · rw [if_pos hv]
    obtain ⟨t, t1, t2, rfl⟩ := zBtw_of (by omega) (by omega) hv
    have ht : t < 6 := by omega
    have i4 : zIx 21 104 (nI t) := ix104 ht
    have i5 : zIx 21 105 (nI t) := ix105 ht
    have ec : (nI t).toNatClampNeg = t := nI_clamp (by omega)
    rw [ec]
    have hlast : ∀ (x : Int32) (m : Nat), ∃ j' : zJ, rn sc (cf sc (d + 2)) 177 75 [.ref 85, .int (nI t), .int s, .int n, .int (nI 0)] [] f (zuA (zuA a 104 (nI t) x) 105 (nI t) (nI m)) j = some (some (.int (nI 1)), f, zuA (zuA a 104 (nI t) x) 105 (nI t) (nI m), j') ∧ ((m ≤ 60) → MT (tup T t (x, m, fun _ => 0)) (zuA (zuA a 104 (nI t) x) 105 (nI t) (nI m)) j') ∧ ∀ k, k ≠ 106 → j' k = j k := by
      intro x m
      obtain ⟨j', r1, r2, r3, r4⟩ := tp_zero (sc := sc) (F := cf sc (d + 2)) (f := f) (a := zuA (zuA a 104 (nI t) x) 105 (nI t) (nI m)) (j := j) (v2 := .int s) (v3 := .int n) ht
      refine ⟨j', r1, fun hm => hT.up hV (x := (x, m, fun _ => 0)) ?_ zuA_eq (fun i hi => r2 i (by dsimp only at hi; omega)) (fun u hu hne => ?_) r3, r4⟩
      · rw [zuA_nk (by omega), zuA_eq]
      · have e9 : nI u ≠ nI t := nI_ne (by omega) (by omega) hne
        rw [zuA_nk (by omega), zuA_ni e9, zuA_ni e9, zuA_nk (by omega)]
        exact ⟨rfl, rfl⟩
    by_cases hs : s = -1
    · rw [if_pos hs]
      obtain ⟨j', r1, r2, r3⟩ := hlast (-1) 0
      rw [hs] at r1
      have hb : (-1 : Int32) = -1 ∨ zBtw (-1) 0 4 := Or.inl rfl
      refine ⟨zuA (zuA a 104 (nI t) (-1)) 105 (nI t) (nI 0), j', ?_, r2 (by omega), fun k k1 k2 => by rw [zuA_nk k2, zuA_nk k1], r3⟩
      rw [hs]
      simp only [q177_0, q177_1, q177_4, q177_7, q177_8, q177_9, q177_10, q177_11, q177_14, q177_17, q177_20, q177_23, q177_24, q177_25, q177_28, q177_29, q177_31, q177_34, q177_36, q177_37, q177_38, q177_39, q177_42, q177_43, q177_46, q177_48, q177_49, q177_50, q177_53, q177_54, q177_55, q177_56, q177_57, q177_60, q177_61, q177_62, q177_63, q177_66, q177_67, q177_70, q177_71, q177_72, q177_73, q177_77, q177_79, q177_82, q177_83, q177_86, q177_88, q177_89, q177_90, q177_92, q177_93, q177_94, q177_95, q177_98, q177_101, q177_102, m_isTape, inm4, eq_true hv, i4, i5, r1, zCall_some, Option.toList, List.cons_append, List.nil_append, zb_0, zb_1, zem, z01, z11, nI_add, ↓reduceIte, not_true_eq_false, not_false_eq_true, n0T, n1F, n11T, true_or, or_true, false_or]
    · rw [if_neg hs]
      by_cases h4 : zBtw s 0 4
      · rw [if_pos h4]
        have hb : s = -1 ∨ zBtw s 0 4 := Or.inr h4
        by_cases h60 : nI 60 < n
        · rw [if_pos h60]
          have c1 : ¬ n ≤ nI 60 := Int32.not_le.mpr h60
          refine ⟨a, j, ?_, hT, fun _ _ _ => rfl, fun _ _ => rfl⟩
          simp only [q177_0, q177_1, q177_4, q177_7, q177_8, q177_9, q177_10, q177_11, q177_14, q177_17, q177_20, q177_23, q177_24, q177_25, q177_28, q177_29, q177_31, q177_34, q177_36, q177_37, q177_38, q177_39, q177_42, q177_43, q177_46, q177_48, q177_49, q177_50, q177_53, q177_54, q177_55, q177_56, q177_57, q177_60, q177_61, q177_62, q177_63, q177_66, q177_67, q177_70, q177_71, q177_72, q177_73, q177_77, q177_79, q177_82, q177_83, q177_86, q177_88, q177_89, q177_90, q177_92, q177_93, q177_94, q177_95, q177_98, q177_101, q177_102, m_isTape, inm4, eq_true hv, eq_true h4, hs, c1, zCall_some, Option.toList, List.cons_append, List.nil_append, zb_0, zb_1, zem, z01, z11, nI_add, ↓reduceIte, not_true_eq_false, not_false_eq_true, n0T, n1F, n11T, true_or, or_true, false_or]
        · rw [if_neg h60]
          have c1 : n ≤ nI 60 := Int32.not_lt.mp h60
          by_cases hn : n < 0
          · rw [if_pos hn]
            have c2 : ¬ 0 ≤ n := lt_nle hn
            refine ⟨a, j, ?_, hT, fun _ _ _ => rfl, fun _ _ => rfl⟩
            simp only [q177_0, q177_1, q177_4, q177_7, q177_8, q177_9, q177_10, q177_11, q177_14, q177_17, q177_20, q177_23, q177_24, q177_25, q177_28, q177_29, q177_31, q177_34, q177_36, q177_37, q177_38, q177_39, q177_42, q177_43, q177_46, q177_48, q177_49, q177_50, q177_53, q177_54, q177_55, q177_56, q177_57, q177_60, q177_61, q177_62, q177_63, q177_66, q177_67, q177_70, q177_71, q177_72, q177_73, q177_77, q177_79, q177_82, q177_83, q177_86, q177_88, q177_89, q177_90, q177_92, q177_93, q177_94, q177_95, q177_98, q177_101, q177_102, m_isTape, inm4, eq_true hv, eq_true h4, hs, c1, c2, zCall_some, Option.toList, List.cons_append, List.nil_append, zb_0, zb_1, zem, z01, z11, nI_add, ↓reduceIte, not_true_eq_false, not_false_eq_true, n0T, n1F, n11T, true_or, or_true, false_or]
          · rw [if_neg hn]
            obtain ⟨m, m1, m2, rfl⟩ := zBtw_of (lo := 0) (hi := 60) (by omega) (by omega) ⟨hn, h60⟩
            rw [nI_clamp (n := m) (by omega)]
            have c2 : 0 ≤ nI m := nn_le hn
            obtain ⟨j', r1, r2, r3⟩ := hlast s m
            refine ⟨zuA (zuA a 104 (nI t) s) 105 (nI t) (nI m), j', ?_, r2 m2, fun k k1 k2 => by rw [zuA_nk k2, zuA_nk k1], r3⟩
            simp only [q177_0, q177_1, q177_4, q177_7, q177_8, q177_9, q177_10, q177_11, q177_14, q177_17, q177_20, q177_23, q177_24, q177_25, q177_28, q177_29, q177_31, q177_34, q177_36, q177_37, q177_38, q177_39, q177_42, q177_43, q177_46, q177_48, q177_49, q177_50, q177_53, q177_54, q177_55, q177_56, q177_57, q177_60, q177_61, q177_62, q177_63, q177_66, q177_67, q177_70, q177_71, q177_72, q177_73, q177_77, q177_79, q177_82, q177_83, q177_86, q177_88, q177_89, q177_90, q177_92, q177_93, q177_94, q177_95, q177_98, q177_101, q177_102, m_isTape, inm4, eq_true hv, eq_true h4, hs, c1, c2, i4, i5, r1, zCall_some, Option.toList, List.cons_append, List.nil_append, zb_0, zb_1, zem, z01, z11, nI_add, ↓reduceIte, not_true_eq_false, not_false_eq_true, n0T, n1F, n11T, true_or, or_true, false_or]
      · rw [if_neg h4]
        have hb : ¬ (s = -1 ∨ zBtw s 0 4) := fun q => q.elim hs h4
        refine ⟨a, j, ?_, hT, fun _ _ _ => rfl, fun _ _ => rfl⟩
        simp only [q177_0, q177_1, q177_4, q177_7, q177_8, q177_9, q177_10, q177_11, q177_14, q177_17, q177_20, q177_23, q177_24, q177_25, q177_28, q177_29, q177_31, q177_34, q177_36, q177_37, q177_38, q177_39, q177_42, q177_43, q177_46, q177_48, q177_49, q177_50, q177_53, q177_54, q177_55, q177_56, q177_57, q177_60, q177_61, q177_62, q177_63, q177_66, q177_67, q177_70, q177_71, q177_72, q177_73, q177_77, q177_79, q177_82, q177_83, q177_86, q177_88, q177_89, q177_90, q177_92, q177_93, q177_94, q177_95, q177_98, q177_101, q177_102, m_isTape, inm4, eq_true hv, eq_false hb, zCall_some, Option.toList, List.cons_append, List.nil_append, zb_0, zb_1, zem, z01, z11, nI_add, ↓reduceIte, not_true_eq_false, not_false_eq_true, n0T, n1F, n11T, true_or, or_true, false_or]
  · rw [if_neg hv]
    refine ⟨a, j, ?_, hT, fun _ _ _ => rfl, fun _ _ => rfl⟩
    simp only [q177_0, q177_1, q177_4, q177_7, q177_8, q177_9, q177_10, q177_11, q177_14, q177_17, q177_20, q177_23, q177_24, q177_25, q177_28, q177_29, q177_31, q177_34, q177_36, q177_37, q177_38, q177_39, q177_42, q177_43, q177_46, q177_48, q177_49, q177_50, q177_53, q177_54, q177_55, q177_56, q177_57, q177_60, q177_61, q177_62, q177_63, q177_66, q177_67, q177_70, q177_71, q177_72, q177_73, q177_77, q177_79, q177_82, q177_83, q177_86, q177_88, q177_89, q177_90, q177_92, q177_93, q177_94, q177_95, q177_98, q177_101, q177_102, m_isTape, eq_false hv, zCall_some, Option.toList, List.cons_append, List.nil_append, zb_0, zb_1, zem, z01, z11, nI_add, ↓reduceIte, not_true_eq_false, not_false_eq_true, n0T, n1F, n11T, true_or, or_true, false_or]
theorem y_item {sc : Int32 × (Int32 → Int32)} {f : zF} {a : zA} {j : zJ} {d : Nat} {T : TS} {v i : Int32} {x : Int64} (hT : MT T a j) (hV : VT T) : ∃ j' : zJ, cf sc (d + 3) 178 [.ref 85, .int v, .int i, .long x] f a j = some (some (.int (itS T v i x).1), f, a, j') ∧ MT (itS T v i x).2 a j' ∧ ∀ k, k ≠ 106 → j' k = j k := by
  rw [en178]
  unfold itS
  by_cases hv : zBtw v 0 5
  · rw [if_pos hv]
    obtain ⟨t, t1, t2, rfl⟩ := zBtw_of (by omega) (by omega) hv
    have ht : t < 6 := by omega
    have i4 : zIx 21 104 (nI t) := ix104 ht
    have i5 : zIx 21 105 (nI t) := ix105 ht
    have ec : (nI t).toNatClampNeg = t := nI_clamp (by omega)
    rw [ec]
    obtain ⟨f1, f2, f3⟩ := hT t ht
    have h60 := hV.le ht
    by_cases hs : (T t).1 = -1
    · rw [if_pos hs]
      refine ⟨j, ?_, hT, fun _ _ => rfl⟩
      simp only [q178_0, q178_1, q178_4, q178_7, q178_8, q178_9, q178_10, q178_13, q178_14, q178_15, q178_16, q178_19, q178_21, q178_22, q178_23, q178_24, q178_25, q178_26, q178_29, q178_30, q178_31, q178_32, q178_33, q178_34, q178_37, q178_40, q178_42, q178_43, q178_44, q178_47, q178_48, q178_49, q178_51, q178_52, q178_55, q178_57, q178_58, q178_59, q178_60, q178_61, q178_63, q178_66, q178_67, q178_68, q178_69, q178_70, q178_73, q178_75, q178_76, q178_79, q178_80, q178_81, q178_82, q178_83, q178_86, q178_88, q178_89, q178_92, q178_93, q178_94, q178_95, q178_98, q178_100, q178_101, q178_104, q178_105, q178_108, q178_109, q178_110, q178_111, q178_114, q178_115, q178_118, q178_119, q178_120, q178_121, m_isTape, eq_true hv, i4, f1, hs, zCall_some, Option.toList, List.cons_append, List.nil_append, zb_0, zb_1, zem, z01, z11, nI_add, ↓reduceIte, not_true_eq_false, not_false_eq_true, n0T, n1F, n11T, true_or, or_true, false_or]
    · rw [if_neg hs]
      by_cases hi : zHas i (T t).2.1
      · rw [if_pos hi]
        obtain ⟨q, hq, rfl⟩ := zHas_of (by omega) hi
        rw [nI_clamp (n := q) (by omega)]
        have ix : zIx 22 106 (nI (60 * t + q)) := ix106 (by omega)
        have hup : ∀ y : Int64, y = aiS (T t).1 x → MT (tup T t ((T t).1, (T t).2.1, fun k => if k = q then aiS (T t).1 x else (T t).2.2 k)) a (zuJ j 106 (nI (60 * t + q)) y) := by
          intro y hy
          refine hT.up hV (x := ((T t).1, (T t).2.1, fun k => if k = q then aiS (T t).1 x else (T t).2.2 k)) f1 f2 (fun k hk => ?_) (fun _ _ _ => ⟨rfl, rfl⟩) (fun p hp hp2 => zuJ_ni (nI_ne (by omega) (by omega) (by omega)))
          dsimp only at hk ⊢
          by_cases e : k = q
          · rw [e, if_pos rfl, zuJ_eq, hy]
          · rw [if_neg e, zuJ_ni (nI_ne (by omega) (by omega) (by omega))]; exact f3 k hk
        refine ⟨zuJ j 106 (nI (60 * t + q)) (aiS (T t).1 x), ?_, hup _ rfl, fun k hk => zuJ_nk hk⟩
        rcases hV t ht with ⟨h9, -⟩ | ⟨⟨s, s5, h9⟩, -⟩
        · exact absurd h9 hs
        · rw [h9] at f1 hs ⊢
          rcases (show s = 0 ∨ s = 1 ∨ s = 2 ∨ s = 3 ∨ s = 4 by omega) with rfl | rfl | rfl | rfl | rfl
          · have ea : aiS (nI 0) x = x.toInt32.toInt8.toInt32.toInt64 := if_pos rfl
            rw [ea]
            simp only [q178_0, q178_1, q178_4, q178_7, q178_8, q178_9, q178_10, q178_13, q178_14, q178_15, q178_16, q178_19, q178_21, q178_22, q178_23, q178_24, q178_25, q178_26, q178_29, q178_30, q178_31, q178_32, q178_33, q178_34, q178_37, q178_40, q178_42, q178_43, q178_44, q178_47, q178_48, q178_49, q178_51, q178_52, q178_55, q178_57, q178_58, q178_59, q178_60, q178_61, q178_63, q178_66, q178_67, q178_68, q178_69, q178_70, q178_73, q178_75, q178_76, q178_79, q178_80, q178_81, q178_82, q178_83, q178_86, q178_88, q178_89, q178_92, q178_93, q178_94, q178_95, q178_98, q178_100, q178_101, q178_104, q178_105, q178_108, q178_109, q178_110, q178_111, q178_114, q178_115, q178_118, q178_119, q178_120, q178_121, m_isTape, eq_true hv, i4, i5, f1, f2, hs, inHas (show (T t).2.1 ≤ 1000 by omega), eq_true hi, pk_mul, ix, zCall_some, Option.toList, List.cons_append, List.nil_append, zb_0, zb_1, zem, z01, z11, nI_add, ↓reduceIte, not_true_eq_false, not_false_eq_true, n0T, n1F, n11T, true_or, or_true, false_or]
          · have ea : aiS (nI 1) x = x.toInt32.toInt16.toInt32.toInt64 := by unfold aiS; rw [if_neg ne1_0, if_pos rfl]
            rw [ea]
            simp only [q178_0, q178_1, q178_4, q178_7, q178_8, q178_9, q178_10, q178_13, q178_14, q178_15, q178_16, q178_19, q178_21, q178_22, q178_23, q178_24, q178_25, q178_26, q178_29, q178_30, q178_31, q178_32, q178_33, q178_34, q178_37, q178_40, q178_42, q178_43, q178_44, q178_47, q178_48, q178_49, q178_51, q178_52, q178_55, q178_57, q178_58, q178_59, q178_60, q178_61, q178_63, q178_66, q178_67, q178_68, q178_69, q178_70, q178_73, q178_75, q178_76, q178_79, q178_80, q178_81, q178_82, q178_83, q178_86, q178_88, q178_89, q178_92, q178_93, q178_94, q178_95, q178_98, q178_100, q178_101, q178_104, q178_105, q178_108, q178_109, q178_110, q178_111, q178_114, q178_115, q178_118, q178_119, q178_120, q178_121, m_isTape, eq_true hv, i4, i5, f1, f2, hs, inHas (show (T t).2.1 ≤ 1000 by omega), eq_true hi, pk_mul, ix, ne0_1, ne0_2, ne0_3, ne0_4, ne0_5, ne0_6, ne0_7, ne0_8, ne0_9, ne0_10, ne0_11, ne0_12, ne1_0, ne1_2, ne1_3, ne1_4, ne1_5, ne1_6, ne1_7, ne1_8, ne1_9, ne1_10, ne1_11, ne1_12, ne2_0, ne2_1, ne2_3, ne2_4, ne2_5, ne2_6, ne2_7, ne2_8, ne2_9, ne2_10, ne2_11, ne2_12, ne3_0, ne3_1, ne3_2, ne3_4, ne3_5, ne3_6, ne3_7, ne3_8, ne3_9, ne3_10, ne3_11, ne3_12, ne4_0, ne4_1, ne4_2, ne4_3, ne4_5, ne4_6, ne4_7, ne4_8, ne4_9, ne4_10, ne4_11, ne4_12, ne5_0, ne5_1, ne5_2, ne5_3, ne5_4, ne5_6, ne5_7, ne5_8, ne5_9, ne5_10, ne5_11, ne5_12, ne6_0, ne6_1, ne6_2, ne6_3, ne6_4, ne6_5, ne6_7, ne6_8, ne6_9, ne6_10, ne6_11, ne6_12, ne7_0, ne7_1, ne7_2, ne7_3, ne7_4, ne7_5, ne7_6, ne7_8, ne7_9, ne7_10, ne7_11, ne7_12, ne8_0, ne8_1, ne8_2, ne8_3, ne8_4, ne8_5, ne8_6, ne8_7, ne8_9, ne8_10, ne8_11, ne8_12, ne9_0, ne9_1, ne9_2, ne9_3, ne9_4, ne9_5, ne9_6, ne9_7, ne9_8, ne9_10, ne9_11, ne9_12, ne10_0, ne10_1, ne10_2, ne10_3, ne10_4, ne10_5, ne10_6, ne10_7, ne10_8, ne10_9, ne10_11, ne10_12, ne11_0, ne11_1, ne11_2, ne11_3, ne11_4, ne11_5, ne11_6, ne11_7, ne11_8, ne11_9, ne11_10, ne11_12, ne12_0, ne12_1, ne12_2, ne12_3, ne12_4, ne12_5, ne12_6, ne12_7, ne12_8, ne12_9, ne12_10, ne12_11, zCall_some, Option.toList, List.cons_append, List.nil_append, zb_0, zb_1, zem, z01, z11, nI_add, ↓reduceIte, not_true_eq_false, not_false_eq_true, n0T, n1F, n11T, true_or, or_true, false_or]
          · have ea : aiS (nI 2) x = x.toInt32.toInt64 := by unfold aiS; rw [if_neg ne2_0, if_neg ne2_1, if_pos rfl]
            have n20 : ¬ nI 2 = 0 := by decide
            rw [ea]
            simp only [q178_0, q178_1, q178_4, q178_7, q178_8, q178_9, q178_10, q178_13, q178_14, q178_15, q178_16, q178_19, q178_21, q178_22, q178_23, q178_24, q178_25, q178_26, q178_29, q178_30, q178_31, q178_32, q178_33, q178_34, q178_37, q178_40, q178_42, q178_43, q178_44, q178_47, q178_48, q178_49, q178_51, q178_52, q178_55, q178_57, q178_58, q178_59, q178_60, q178_61, q178_63, q178_66, q178_67, q178_68, q178_69, q178_70, q178_73, q178_75, q178_76, q178_79, q178_80, q178_81, q178_82, q178_83, q178_86, q178_88, q178_89, q178_92, q178_93, q178_94, q178_95, q178_98, q178_100, q178_101, q178_104, q178_105, q178_108, q178_109, q178_110, q178_111, q178_114, q178_115, q178_118, q178_119, q178_120, q178_121, m_isTape, eq_true hv, i4, i5, f1, f2, hs, inHas (show (T t).2.1 ≤ 1000 by omega), eq_true hi, pk_mul, ix, n20, ne0_1, ne0_2, ne0_3, ne0_4, ne0_5, ne0_6, ne0_7, ne0_8, ne0_9, ne0_10, ne0_11, ne0_12, ne1_0, ne1_2, ne1_3, ne1_4, ne1_5, ne1_6, ne1_7, ne1_8, ne1_9, ne1_10, ne1_11, ne1_12, ne2_0, ne2_1, ne2_3, ne2_4, ne2_5, ne2_6, ne2_7, ne2_8, ne2_9, ne2_10, ne2_11, ne2_12, ne3_0, ne3_1, ne3_2, ne3_4, ne3_5, ne3_6, ne3_7, ne3_8, ne3_9, ne3_10, ne3_11, ne3_12, ne4_0, ne4_1, ne4_2, ne4_3, ne4_5, ne4_6, ne4_7, ne4_8, ne4_9, ne4_10, ne4_11, ne4_12, ne5_0, ne5_1, ne5_2, ne5_3, ne5_4, ne5_6, ne5_7, ne5_8, ne5_9, ne5_10, ne5_11, ne5_12, ne6_0, ne6_1, ne6_2, ne6_3, ne6_4, ne6_5, ne6_7, ne6_8, ne6_9, ne6_10, ne6_11, ne6_12, ne7_0, ne7_1, ne7_2, ne7_3, ne7_4, ne7_5, ne7_6, ne7_8, ne7_9, ne7_10, ne7_11, ne7_12, ne8_0, ne8_1, ne8_2, ne8_3, ne8_4, ne8_5, ne8_6, ne8_7, ne8_9, ne8_10, ne8_11, ne8_12, ne9_0, ne9_1, ne9_2, ne9_3, ne9_4, ne9_5, ne9_6, ne9_7, ne9_8, ne9_10, ne9_11, ne9_12, ne10_0, ne10_1, ne10_2, ne10_3, ne10_4, ne10_5, ne10_6, ne10_7, ne10_8, ne10_9, ne10_11, ne10_12, ne11_0, ne11_1, ne11_2, ne11_3, ne11_4, ne11_5, ne11_6, ne11_7, ne11_8, ne11_9, ne11_10, ne11_12, ne12_0, ne12_1, ne12_2, ne12_3, ne12_4, ne12_5, ne12_6, ne12_7, ne12_8, ne12_9, ne12_10, ne12_11, zCall_some, Option.toList, List.cons_append, List.nil_append, zb_0, zb_1, zem, z01, z11, nI_add, ↓reduceIte, not_true_eq_false, not_false_eq_true, n0T, n1F, n11T, true_or, or_true, false_or]
          · have ea : aiS (nI 3) x = x := by unfold aiS; rw [if_neg ne3_0, if_neg ne3_1, if_neg ne3_2, if_neg ne3_4]
            have n20 : ¬ nI 3 = 0 := by decide
            rw [ea]
            simp only [q178_0, q178_1, q178_4, q178_7, q178_8, q178_9, q178_10, q178_13, q178_14, q178_15, q178_16, q178_19, q178_21, q178_22, q178_23, q178_24, q178_25, q178_26, q178_29, q178_30, q178_31, q178_32, q178_33, q178_34, q178_37, q178_40, q178_42, q178_43, q178_44, q178_47, q178_48, q178_49, q178_51, q178_52, q178_55, q178_57, q178_58, q178_59, q178_60, q178_61, q178_63, q178_66, q178_67, q178_68, q178_69, q178_70, q178_73, q178_75, q178_76, q178_79, q178_80, q178_81, q178_82, q178_83, q178_86, q178_88, q178_89, q178_92, q178_93, q178_94, q178_95, q178_98, q178_100, q178_101, q178_104, q178_105, q178_108, q178_109, q178_110, q178_111, q178_114, q178_115, q178_118, q178_119, q178_120, q178_121, m_isTape, eq_true hv, i4, i5, f1, f2, hs, inHas (show (T t).2.1 ≤ 1000 by omega), eq_true hi, pk_mul, ix, n20, ne0_1, ne0_2, ne0_3, ne0_4, ne0_5, ne0_6, ne0_7, ne0_8, ne0_9, ne0_10, ne0_11, ne0_12, ne1_0, ne1_2, ne1_3, ne1_4, ne1_5, ne1_6, ne1_7, ne1_8, ne1_9, ne1_10, ne1_11, ne1_12, ne2_0, ne2_1, ne2_3, ne2_4, ne2_5, ne2_6, ne2_7, ne2_8, ne2_9, ne2_10, ne2_11, ne2_12, ne3_0, ne3_1, ne3_2, ne3_4, ne3_5, ne3_6, ne3_7, ne3_8, ne3_9, ne3_10, ne3_11, ne3_12, ne4_0, ne4_1, ne4_2, ne4_3, ne4_5, ne4_6, ne4_7, ne4_8, ne4_9, ne4_10, ne4_11, ne4_12, ne5_0, ne5_1, ne5_2, ne5_3, ne5_4, ne5_6, ne5_7, ne5_8, ne5_9, ne5_10, ne5_11, ne5_12, ne6_0, ne6_1, ne6_2, ne6_3, ne6_4, ne6_5, ne6_7, ne6_8, ne6_9, ne6_10, ne6_11, ne6_12, ne7_0, ne7_1, ne7_2, ne7_3, ne7_4, ne7_5, ne7_6, ne7_8, ne7_9, ne7_10, ne7_11, ne7_12, ne8_0, ne8_1, ne8_2, ne8_3, ne8_4, ne8_5, ne8_6, ne8_7, ne8_9, ne8_10, ne8_11, ne8_12, ne9_0, ne9_1, ne9_2, ne9_3, ne9_4, ne9_5, ne9_6, ne9_7, ne9_8, ne9_10, ne9_11, ne9_12, ne10_0, ne10_1, ne10_2, ne10_3, ne10_4, ne10_5, ne10_6, ne10_7, ne10_8, ne10_9, ne10_11, ne10_12, ne11_0, ne11_1, ne11_2, ne11_3, ne11_4, ne11_5, ne11_6, ne11_7, ne11_8, ne11_9, ne11_10, ne11_12, ne12_0, ne12_1, ne12_2, ne12_3, ne12_4, ne12_5, ne12_6, ne12_7, ne12_8, ne12_9, ne12_10, ne12_11, zCall_some, Option.toList, List.cons_append, List.nil_append, zb_0, zb_1, zem, z01, z11, nI_add, ↓reduceIte, not_true_eq_false, not_false_eq_true, n0T, n1F, n11T, true_or, or_true, false_or]
          · have ea : aiS (nI 4) x = if x = 0 then 0 else 1 := by unfold aiS; rw [if_neg ne4_0, if_neg ne4_1, if_neg ne4_2, if_pos rfl]
            have n20 : ¬ nI 4 = 0 := by decide
            rw [ea]
            by_cases hx : x = 0
            · rw [if_pos hx]
              simp only [q178_0, q178_1, q178_4, q178_7, q178_8, q178_9, q178_10, q178_13, q178_14, q178_15, q178_16, q178_19, q178_21, q178_22, q178_23, q178_24, q178_25, q178_26, q178_29, q178_30, q178_31, q178_32, q178_33, q178_34, q178_37, q178_40, q178_42, q178_43, q178_44, q178_47, q178_48, q178_49, q178_51, q178_52, q178_55, q178_57, q178_58, q178_59, q178_60, q178_61, q178_63, q178_66, q178_67, q178_68, q178_69, q178_70, q178_73, q178_75, q178_76, q178_79, q178_80, q178_81, q178_82, q178_83, q178_86, q178_88, q178_89, q178_92, q178_93, q178_94, q178_95, q178_98, q178_100, q178_101, q178_104, q178_105, q178_108, q178_109, q178_110, q178_111, q178_114, q178_115, q178_118, q178_119, q178_120, q178_121, m_isTape, eq_true hv, i4, i5, f1, f2, hs, inHas (show (T t).2.1 ≤ 1000 by omega), eq_true hi, pk_mul, ix, n20, lg_cmp_eq, eq_true hx, ne0_1, ne0_2, ne0_3, ne0_4, ne0_5, ne0_6, ne0_7, ne0_8, ne0_9, ne0_10, ne0_11, ne0_12, ne1_0, ne1_2, ne1_3, ne1_4, ne1_5, ne1_6, ne1_7, ne1_8, ne1_9, ne1_10, ne1_11, ne1_12, ne2_0, ne2_1, ne2_3, ne2_4, ne2_5, ne2_6, ne2_7, ne2_8, ne2_9, ne2_10, ne2_11, ne2_12, ne3_0, ne3_1, ne3_2, ne3_4, ne3_5, ne3_6, ne3_7, ne3_8, ne3_9, ne3_10, ne3_11, ne3_12, ne4_0, ne4_1, ne4_2, ne4_3, ne4_5, ne4_6, ne4_7, ne4_8, ne4_9, ne4_10, ne4_11, ne4_12, ne5_0, ne5_1, ne5_2, ne5_3, ne5_4, ne5_6, ne5_7, ne5_8, ne5_9, ne5_10, ne5_11, ne5_12, ne6_0, ne6_1, ne6_2, ne6_3, ne6_4, ne6_5, ne6_7, ne6_8, ne6_9, ne6_10, ne6_11, ne6_12, ne7_0, ne7_1, ne7_2, ne7_3, ne7_4, ne7_5, ne7_6, ne7_8, ne7_9, ne7_10, ne7_11, ne7_12, ne8_0, ne8_1, ne8_2, ne8_3, ne8_4, ne8_5, ne8_6, ne8_7, ne8_9, ne8_10, ne8_11, ne8_12, ne9_0, ne9_1, ne9_2, ne9_3, ne9_4, ne9_5, ne9_6, ne9_7, ne9_8, ne9_10, ne9_11, ne9_12, ne10_0, ne10_1, ne10_2, ne10_3, ne10_4, ne10_5, ne10_6, ne10_7, ne10_8, ne10_9, ne10_11, ne10_12, ne11_0, ne11_1, ne11_2, ne11_3, ne11_4, ne11_5, ne11_6, ne11_7, ne11_8, ne11_9, ne11_10, ne11_12, ne12_0, ne12_1, ne12_2, ne12_3, ne12_4, ne12_5, ne12_6, ne12_7, ne12_8, ne12_9, ne12_10, ne12_11, zCall_some, Option.toList, List.cons_append, List.nil_append, zb_0, zb_1, zem, z01, z11, nI_add, ↓reduceIte, not_true_eq_false, not_false_eq_true, n0T, n1F, n11T, true_or, or_true, false_or]
            · rw [if_neg hx]
              simp only [q178_0, q178_1, q178_4, q178_7, q178_8, q178_9, q178_10, q178_13, q178_14, q178_15, q178_16, q178_19, q178_21, q178_22, q178_23, q178_24, q178_25, q178_26, q178_29, q178_30, q178_31, q178_32, q178_33, q178_34, q178_37, q178_40, q178_42, q178_43, q178_44, q178_47, q178_48, q178_49, q178_51, q178_52, q178_55, q178_57, q178_58, q178_59, q178_60, q178_61, q178_63, q178_66, q178_67, q178_68, q178_69, q178_70, q178_73, q178_75, q178_76, q178_79, q178_80, q178_81, q178_82, q178_83, q178_86, q178_88, q178_89, q178_92, q178_93, q178_94, q178_95, q178_98, q178_100, q178_101, q178_104, q178_105, q178_108, q178_109, q178_110, q178_111, q178_114, q178_115, q178_118, q178_119, q178_120, q178_121, m_isTape, eq_true hv, i4, i5, f1, f2, hs, inHas (show (T t).2.1 ≤ 1000 by omega), eq_true hi, pk_mul, ix, n20, lg_cmp_eq, eq_false hx, ne0_1, ne0_2, ne0_3, ne0_4, ne0_5, ne0_6, ne0_7, ne0_8, ne0_9, ne0_10, ne0_11, ne0_12, ne1_0, ne1_2, ne1_3, ne1_4, ne1_5, ne1_6, ne1_7, ne1_8, ne1_9, ne1_10, ne1_11, ne1_12, ne2_0, ne2_1, ne2_3, ne2_4, ne2_5, ne2_6, ne2_7, ne2_8, ne2_9, ne2_10, ne2_11, ne2_12, ne3_0, ne3_1, ne3_2, ne3_4, ne3_5, ne3_6, ne3_7, ne3_8, ne3_9, ne3_10, ne3_11, ne3_12, ne4_0, ne4_1, ne4_2, ne4_3, ne4_5, ne4_6, ne4_7, ne4_8, ne4_9, ne4_10, ne4_11, ne4_12, ne5_0, ne5_1, ne5_2, ne5_3, ne5_4, ne5_6, ne5_7, ne5_8, ne5_9, ne5_10, ne5_11, ne5_12, ne6_0, ne6_1, ne6_2, ne6_3, ne6_4, ne6_5, ne6_7, ne6_8, ne6_9, ne6_10, ne6_11, ne6_12, ne7_0, ne7_1, ne7_2, ne7_3, ne7_4, ne7_5, ne7_6, ne7_8, ne7_9, ne7_10, ne7_11, ne7_12, ne8_0, ne8_1, ne8_2, ne8_3, ne8_4, ne8_5, ne8_6, ne8_7, ne8_9, ne8_10, ne8_11, ne8_12, ne9_0, ne9_1, ne9_2, ne9_3, ne9_4, ne9_5, ne9_6, ne9_7, ne9_8, ne9_10, ne9_11, ne9_12, ne10_0, ne10_1, ne10_2, ne10_3, ne10_4, ne10_5, ne10_6, ne10_7, ne10_8, ne10_9, ne10_11, ne10_12, ne11_0, ne11_1, ne11_2, ne11_3, ne11_4, ne11_5, ne11_6, ne11_7, ne11_8, ne11_9, ne11_10, ne11_12, ne12_0, ne12_1, ne12_2, ne12_3, ne12_4, ne12_5, ne12_6, ne12_7, ne12_8, ne12_9, ne12_10, ne12_11, zCall_some, Option.toList, List.cons_append, List.nil_append, zb_0, zb_1, zem, z01, z11, nI_add, ↓reduceIte, not_true_eq_false, not_false_eq_true, n0T, n1F, n11T, true_or, or_true, false_or]
      · rw [if_neg hi]
        refine ⟨j, ?_, hT, fun _ _ => rfl⟩
        simp only [q178_0, q178_1, q178_4, q178_7, q178_8, q178_9, q178_10, q178_13, q178_14, q178_15, q178_16, q178_19, q178_21, q178_22, q178_23, q178_24, q178_25, q178_26, q178_29, q178_30, q178_31, q178_32, q178_33, q178_34, q178_37, q178_40, q178_42, q178_43, q178_44, q178_47, q178_48, q178_49, q178_51, q178_52, q178_55, q178_57, q178_58, q178_59, q178_60, q178_61, q178_63, q178_66, q178_67, q178_68, q178_69, q178_70, q178_73, q178_75, q178_76, q178_79, q178_80, q178_81, q178_82, q178_83, q178_86, q178_88, q178_89, q178_92, q178_93, q178_94, q178_95, q178_98, q178_100, q178_101, q178_104, q178_105, q178_108, q178_109, q178_110, q178_111, q178_114, q178_115, q178_118, q178_119, q178_120, q178_121, m_isTape, eq_true hv, i4, i5, f1, f2, hs, inHas (show (T t).2.1 ≤ 1000 by omega), eq_false hi, zCall_some, Option.toList, List.cons_append, List.nil_append, zb_0, zb_1, zem, z01, z11, nI_add, ↓reduceIte, not_true_eq_false, not_false_eq_true, n0T, n1F, n11T, true_or, or_true, false_or]
  · rw [if_neg hv]
    refine ⟨j, ?_, hT, fun _ _ => rfl⟩
    simp only [q178_0, q178_1, q178_4, q178_7, q178_8, q178_9, q178_10, q178_13, q178_14, q178_15, q178_16, q178_19, q178_21, q178_22, q178_23, q178_24, q178_25, q178_26, q178_29, q178_30, q178_31, q178_32, q178_33, q178_34, q178_37, q178_40, q178_42, q178_43, q178_44, q178_47, q178_48, q178_49, q178_51, q178_52, q178_55, q178_57, q178_58, q178_59, q178_60, q178_61, q178_63, q178_66, q178_67, q178_68, q178_69, q178_70, q178_73, q178_75, q178_76, q178_79, q178_80, q178_81, q178_82, q178_83, q178_86, q178_88, q178_89, q178_92, q178_93, q178_94, q178_95, q178_98, q178_100, q178_101, q178_104, q178_105, q178_108, q178_109, q178_110, q178_111, q178_114, q178_115, q178_118, q178_119, q178_120, q178_121, m_isTape, eq_false hv, zCall_some, Option.toList, List.cons_append, List.nil_append, zb_0, zb_1, zem, z01, z11, nI_add, ↓reduceIte, not_true_eq_false, not_false_eq_true, n0T, n1F, n11T, true_or, or_true, false_or]
theorem y_peek {sc : Int32 × (Int32 → Int32)} {f : zF} {a : zA} {j : zJ} {d : Nat} {T : TS} {v i : Int32} (hT : MT T a j) (hV : VT T) : cf sc (d + 3) 179 [.ref 85, .int v, .int i] f a j = some (some (.long (pkS T v i)), f, a, j) := by
  rw [en179]
  unfold pkS sNO
  by_cases hv : zBtw v 0 5
  · obtain ⟨t, t1, t2, rfl⟩ := zBtw_of (by omega) (by omega) hv
    have ht : t < 6 := by omega
    have i4 : zIx 21 104 (nI t) := ix104 ht
    have i5 : zIx 21 105 (nI t) := ix105 ht
    have ec : (nI t).toNatClampNeg = t := nI_clamp (by omega)
    rw [ec]
    obtain ⟨f1, f2, f3⟩ := hT t ht
    have h60 := hV.le ht
    by_cases hi : zHas i (T t).2.1
    · rw [if_pos ⟨hv, hi⟩]
      obtain ⟨q, hq, rfl⟩ := zHas_of (by omega) hi
      rw [nI_clamp (n := q) (by omega)]
      have ix : zIx 22 106 (nI (60 * t + q)) := ix106 (by omega)
      have hs : ¬ (T t).1 = -1 := by
        rcases hV t ht with ⟨-, h9⟩ | ⟨⟨s, s5, h9⟩, -⟩
        · omega
        · rw [h9]
          exact (by decide : ∀ s, s < 5 → ¬ nI s = -1) s s5
      simp only [q179_0, q179_1, q179_4, q179_7, q179_8, q179_11, q179_12, q179_13, q179_14, q179_17, q179_18, q179_19, q179_20, q179_21, q179_24, q179_25, q179_26, q179_27, q179_28, q179_29, q179_32, q179_35, q179_36, q179_39, q179_41, q179_42, q179_43, q179_44, q179_45, q179_46, q179_49, q179_52, m_isTape, eq_true hv, i4, i5, f1, f2, hs, inHas (show (T t).2.1 ≤ 1000 by omega), eq_true hi, pk_mul, ix, f3 q hq, zCall_some, Option.toList, List.cons_append, List.nil_append, zb_0, zb_1, zem, z01, z11, nI_add, ↓reduceIte, not_true_eq_false, not_false_eq_true, n0T, n1F, n11T, true_or, or_true, false_or]
    · rw [if_neg (fun q => hi q.2)]
      by_cases hs : (T t).1 = -1
      · simp only [q179_0, q179_1, q179_4, q179_7, q179_8, q179_11, q179_12, q179_13, q179_14, q179_17, q179_18, q179_19, q179_20, q179_21, q179_24, q179_25, q179_26, q179_27, q179_28, q179_29, q179_32, q179_35, q179_36, q179_39, q179_41, q179_42, q179_43, q179_44, q179_45, q179_46, q179_49, q179_52, m_isTape, eq_true hv, i4, i5, f1, f2, hs, zCall_some, Option.toList, List.cons_append, List.nil_append, zb_0, zb_1, zem, z01, z11, nI_add, ↓reduceIte, not_true_eq_false, not_false_eq_true, n0T, n1F, n11T, true_or, or_true, false_or]
      · simp only [q179_0, q179_1, q179_4, q179_7, q179_8, q179_11, q179_12, q179_13, q179_14, q179_17, q179_18, q179_19, q179_20, q179_21, q179_24, q179_25, q179_26, q179_27, q179_28, q179_29, q179_32, q179_35, q179_36, q179_39, q179_41, q179_42, q179_43, q179_44, q179_45, q179_46, q179_49, q179_52, m_isTape, eq_true hv, i4, i5, f1, f2, hs, inHas (show (T t).2.1 ≤ 1000 by omega), eq_false hi, zCall_some, Option.toList, List.cons_append, List.nil_append, zb_0, zb_1, zem, z01, z11, nI_add, ↓reduceIte, not_true_eq_false, not_false_eq_true, n0T, n1F, n11T, true_or, or_true, false_or]
  · rw [if_neg (fun q => hv q.1)]
    simp only [q179_0, q179_1, q179_4, q179_7, q179_8, q179_11, q179_12, q179_13, q179_14, q179_17, q179_18, q179_19, q179_20, q179_21, q179_24, q179_25, q179_26, q179_27, q179_28, q179_29, q179_32, q179_35, q179_36, q179_39, q179_41, q179_42, q179_43, q179_44, q179_45, q179_46, q179_49, q179_52, m_isTape, eq_false hv, zCall_some, Option.toList, List.cons_append, List.nil_append, zb_0, zb_1, zem, z01, z11, nI_add, ↓reduceIte, not_true_eq_false, not_false_eq_true, n0T, n1F, n11T, true_or, or_true, false_or]
theorem sub_toInt2 {x y : Nat} (hx : x < 2 ^ 31) (hy : y < 2 ^ 31) : (nI x - nI y).toInt = (x : Int) - y := by
  rw [Int32.toInt_sub, nI_toInt (by omega), nI_toInt (by omega)]
  exact Int.bmod_eq_of_le (by omega) (by omega)
theorem sh_in {z x m : Nat} (hz : z < 2 ^ 31) (hx : x < 2 ^ 31) (hm : m < 2 ^ 31) : (nI x ≤ nI z - nI m) ↔ x + m ≤ z := by
  rw [Int32.le_iff_toInt_le, sub_toInt2 hz hm, nI_toInt hx]
  omega
theorem sh_gt {z x m : Nat} (hz : z < 2 ^ 31) (hx : x < 2 ^ 31) (hm : m < 2 ^ 31) : (nI z - nI m < nI x) ↔ ¬ x + m ≤ z := by
  rw [Int32.lt_iff_toInt_lt, sub_toInt2 hz hm, nI_toInt hx]
  omega
theorem sh_dn {sc : Int32 × (Int32 → Int32)} {F : zCF} {f : zF} {a : zA} {j : zJ} {t u x y m : Nat} (ht : t < 6) (hu : u < 6) (hx : x + m ≤ 60) (hy : y + m ≤ 60) (hd : 60 * u + y ≤ 60 * t + x ∨ 60 * t + x + m ≤ 60 * u + y) : ∃ j' : zJ, rn sc F 180 122 [.ref 85, .int (nI t), .int (nI x), .int (nI u), .int (nI y), .int (nI m), .int (nI 0), .int (nI 0), .null] [] f a j = some (some (.int (nI m)), f, a, j') ∧ (∀ p, p < 360 → j' 106 (nI p) = if 60 * u + y ≤ p ∧ p < 60 * u + y + m then j 106 (nI (60 * t + x + (p - (60 * u + y)))) else j 106 (nI p)) ∧ ∀ k, k ≠ 106 → j' k = j k := by
  have key := zLoopP (n := m) (g := fun s : (Nat × Value × zJ) => rn sc F 180 122 [.ref 85, .int (nI t), .int (nI x), .int (nI u), .int (nI y), .int (nI m), .int (nI 0), .int (nI s.1), s.2.1] [] f a s.2.2) (P := fun i s => s.1 = i ∧ (∀ p, p < 360 → s.2.2 106 (nI p) = if 60 * u + y ≤ p ∧ p < 60 * u + y + i then j 106 (nI (60 * t + x + (p - (60 * u + y)))) else j 106 (nI p)) ∧ ∀ k, k ≠ 106 → s.2.2 k = j k) (by
    intro i s hi hP
    obtain ⟨i', v9, j1⟩ := s
    obtain ⟨rfl, g1, g2⟩ := hP
    dsimp only at g1 g2 hi
    have c1 : ¬ nI m ≤ nI i' := nI_ge hi (by omega)
    have ix1 : zIx 22 106 (nI (60 * t + x + i')) := ix106 (by omega)
    have ix2 : zIx 22 106 (nI (60 * u + y + i')) := ix106 (by omega)
    have er : j1 106 (nI (60 * t + x + i')) = j 106 (nI (60 * t + x + i')) := by rw [g1 _ (by omega), if_neg (by omega)]
    refine ⟨(i' + 1, .int (nI i'), zuJ j1 106 (nI (60 * u + y + i')) (j 106 (nI (60 * t + x + i')))), ⟨rfl, fun p hp => ?_, fun k hk => ?_⟩, ?_⟩
    · dsimp only
      by_cases e : p = 60 * u + y + i'
      · rw [if_pos (by omega), e, zuJ_eq, show 60 * u + y + i' - (60 * u + y) = i' by omega]
      · rw [zuJ_ni (nI_ne (by omega) (by omega) e), g1 p hp]
        by_cases c : 60 * u + y ≤ p ∧ p < 60 * u + y + i'
        · rw [if_pos c, if_pos (by omega)]
        · rw [if_neg c, if_neg (by omega)]
    · dsimp only
      rw [zuJ_nk hk]; exact g2 k hk
    · dsimp only
      rw [q180_122]
      simp only [q180_0, q180_1, q180_4, q180_7, q180_8, q180_11, q180_14, q180_15, q180_16, q180_17, q180_20, q180_21, q180_22, q180_23, q180_26, q180_27, q180_30, q180_31, q180_32, q180_33, q180_36, q180_38, q180_39, q180_40, q180_43, q180_44, q180_45, q180_46, q180_49, q180_50, q180_51, q180_54, q180_56, q180_57, q180_59, q180_62, q180_63, q180_66, q180_68, q180_71, q180_72, q180_73, q180_76, q180_77, q180_78, q180_80, q180_81, q180_84, q180_86, q180_87, q180_90, q180_91, q180_92, q180_94, q180_95, q180_98, q180_100, q180_101, q180_102, q180_103, q180_106, q180_107, q180_109, q180_112, q180_113, q180_116, q180_117, q180_119, q180_120, q180_124, q180_126, q180_129, q180_131, q180_134, q180_136, q180_137, q180_138, q180_140, q180_141, q180_144, q180_146, q180_148, q180_149, q180_152, q180_154, q180_155, q180_156, q180_158, q180_159, q180_161, q180_162, q180_163, q180_166, q180_168, q180_169, q180_170, q180_171, q180_172, q180_174, q180_175, q180_176, q180_177, q180_180, q180_183, q180_185, c1, pk_mul, ix1, ix2, er, zCall_some, Option.toList, List.cons_append, List.nil_append, zb_0, zb_1, zem, z01, z11, nI_add, ↓reduceIte, not_true_eq_false, not_false_eq_true, n0T, n1F, n11T, true_or, or_true, false_or]) (0, .null, j) ⟨rfl, fun p hp => by rw [if_neg (by omega)], fun _ _ => rfl⟩
  obtain ⟨⟨i, v9, j1⟩, ⟨hi, g1, g2⟩, e⟩ := key
  dsimp only at g1 g2 hi e
  rw [hi] at e
  refine ⟨j1, ?_, g1, g2⟩
  have c1 : nI m ≤ nI m := nI_le (Nat.le_refl _) (by omega)
  refine Eq.trans (show _ = _ from e) ?_
  simp only [q180_122, q180_124, q180_126, q180_183, q180_185, c1, zCall_some, Option.toList, List.cons_append, List.nil_append, zb_0, zb_1, zem, z01, z11, nI_add, ↓reduceIte, not_true_eq_false, not_false_eq_true, n0T, n1F, n11T, true_or, or_true, false_or]
theorem sh_up {sc : Int32 × (Int32 → Int32)} {F : zCF} {f : zF} {a : zA} {j : zJ} {t u x y m : Nat} (ht : t < 6) (hu : u < 6) (hx : x + m ≤ 60) (hy : y + m ≤ 60) (hd : 60 * t + x < 60 * u + y) : ∃ j' : zJ, rn sc F 180 122 [.ref 85, .int (nI t), .int (nI x), .int (nI u), .int (nI y), .int (nI m), .int (nI 1), .int (nI 0), .null] [] f a j = some (some (.int (nI m)), f, a, j') ∧ (∀ p, p < 360 → j' 106 (nI p) = if 60 * u + y ≤ p ∧ p < 60 * u + y + m then j 106 (nI (60 * t + x + (p - (60 * u + y)))) else j 106 (nI p)) ∧ ∀ k, k ≠ 106 → j' k = j k := by
  have key := zLoopP (n := m) (g := fun s : (Nat × Value × zJ) => rn sc F 180 122 [.ref 85, .int (nI t), .int (nI x), .int (nI u), .int (nI y), .int (nI m), .int (nI 1), .int (nI s.1), s.2.1] [] f a s.2.2) (P := fun i s => s.1 = i ∧ (∀ p, p < 360 → s.2.2 106 (nI p) = if 60 * u + y + (m - i) ≤ p ∧ p < 60 * u + y + m then j 106 (nI (60 * t + x + (p - (60 * u + y)))) else j 106 (nI p)) ∧ ∀ k, k ≠ 106 → s.2.2 k = j k) (by
    intro i s hi hP
    obtain ⟨i', v9, j1⟩ := s
    obtain ⟨rfl, g1, g2⟩ := hP
    dsimp only at g1 g2 hi
    have c1 : ¬ nI m ≤ nI i' := nI_ge hi (by omega)
    have s1 : nI m - nI 1 = nI (m - 1) := pk_sub (by omega)
    have s2 : nI (m - 1) - nI i' = nI (m - 1 - i') := pk_sub (by omega)
    have ix1 : zIx 22 106 (nI (60 * t + x + (m - 1 - i'))) := ix106 (by omega)
    have ix2 : zIx 22 106 (nI (60 * u + y + (m - 1 - i'))) := ix106 (by omega)
    have er : j1 106 (nI (60 * t + x + (m - 1 - i'))) = j 106 (nI (60 * t + x + (m - 1 - i'))) := by rw [g1 _ (by omega), if_neg (by omega)]
    refine ⟨(i' + 1, .int (nI (m - 1 - i')), zuJ j1 106 (nI (60 * u + y + (m - 1 - i'))) (j 106 (nI (60 * t + x + (m - 1 - i'))))), ⟨rfl, fun p hp => ?_, fun k hk => ?_⟩, ?_⟩
    · dsimp only
      by_cases e : p = 60 * u + y + (m - 1 - i')
      · rw [if_pos (by omega), e, zuJ_eq, show 60 * u + y + (m - 1 - i') - (60 * u + y) = m - 1 - i' by omega]
      · rw [zuJ_ni (nI_ne (by omega) (by omega) e), g1 p hp]
        by_cases c : 60 * u + y + (m - i') ≤ p ∧ p < 60 * u + y + m
        · rw [if_pos c, if_pos (by omega)]
        · rw [if_neg c, if_neg (by omega)]
    · dsimp only
      rw [zuJ_nk hk]; exact g2 k hk
    · dsimp only
      rw [q180_122]
      simp only [q180_0, q180_1, q180_4, q180_7, q180_8, q180_11, q180_14, q180_15, q180_16, q180_17, q180_20, q180_21, q180_22, q180_23, q180_26, q180_27, q180_30, q180_31, q180_32, q180_33, q180_36, q180_38, q180_39, q180_40, q180_43, q180_44, q180_45, q180_46, q180_49, q180_50, q180_51, q180_54, q180_56, q180_57, q180_59, q180_62, q180_63, q180_66, q180_68, q180_71, q180_72, q180_73, q180_76, q180_77, q180_78, q180_80, q180_81, q180_84, q180_86, q180_87, q180_90, q180_91, q180_92, q180_94, q180_95, q180_98, q180_100, q180_101, q180_102, q180_103, q180_106, q180_107, q180_109, q180_112, q180_113, q180_116, q180_117, q180_119, q180_120, q180_124, q180_126, q180_129, q180_131, q180_134, q180_136, q180_137, q180_138, q180_140, q180_141, q180_144, q180_146, q180_148, q180_149, q180_152, q180_154, q180_155, q180_156, q180_158, q180_159, q180_161, q180_162, q180_163, q180_166, q180_168, q180_169, q180_170, q180_171, q180_172, q180_174, q180_175, q180_176, q180_177, q180_180, q180_183, q180_185, c1, pk_mul, s1, s2, ix1, ix2, er, zCall_some, Option.toList, List.cons_append, List.nil_append, zb_0, zb_1, zem, z01, z11, nI_add, ↓reduceIte, not_true_eq_false, not_false_eq_true, n0T, n1F, n11T, true_or, or_true, false_or]) (0, .null, j) ⟨rfl, fun p hp => by rw [if_neg (by omega)], fun _ _ => rfl⟩
  obtain ⟨⟨i, v9, j1⟩, ⟨hi, g1, g2⟩, e⟩ := key
  dsimp only at g1 g2 hi e
  rw [hi] at e
  refine ⟨j1, ?_, fun p hp => by rw [g1 p hp, Nat.sub_self, Nat.add_zero], g2⟩
  have c1 : nI m ≤ nI m := nI_le (Nat.le_refl _) (by omega)
  refine Eq.trans (show _ = _ from e) ?_
  simp only [q180_122, q180_124, q180_126, q180_183, q180_185, c1, zCall_some, Option.toList, List.cons_append, List.nil_append, zb_0, zb_1, zem, z01, z11, nI_add, ↓reduceIte, not_true_eq_false, not_false_eq_true, n0T, n1F, n11T, true_or, or_true, false_or]
theorem y_shift {sc : Int32 × (Int32 → Int32)} {f : zF} {a : zA} {j : zJ} {d : Nat} {T : TS} {v i w k n : Int32} (hT : MT T a j) (hV : VT T) : ∃ j' : zJ, cf sc (d + 3) 180 [.ref 85, .int v, .int i, .int w, .int k, .int n] f a j = some (some (.int (shS T v i w k n).1), f, a, j') ∧ MT (shS T v i w k n).2 a j' ∧ ∀ k, k ≠ 106 → j' k = j k := by
  rw [en180]
  unfold shS
  by_cases hv : zBtw v 0 5
  · by_cases hw : zBtw w 0 5
    · rw [if_pos ⟨hv, hw⟩]
      obtain ⟨t, t1, t2, rfl⟩ := zBtw_of (by omega) (by omega) hv
      obtain ⟨u, u1, u2, rfl⟩ := zBtw_of (by omega) (by omega) hw
      have ht : t < 6 := by omega
      have hu : u < 6 := by omega
      have i4 : zIx 21 104 (nI t) := ix104 ht
      have i5 : zIx 21 105 (nI t) := ix105 ht
      have k4 : zIx 21 104 (nI u) := ix104 hu
      have k5 : zIx 21 105 (nI u) := ix105 hu
      have ec : (nI t).toNatClampNeg = t := nI_clamp (by omega)
      have ed : (nI u).toNatClampNeg = u := nI_clamp (by omega)
      rw [ec, ed]
      obtain ⟨f1, f2, f3⟩ := hT t ht
      obtain ⟨g1, g2, g3⟩ := hT u hu
      have l1 := hV.le ht
      have l2 := hV.le hu
      by_cases s1 : (T t).1 = -1
      · rw [if_pos (Or.inl s1)]
        refine ⟨j, ?_, hT, fun _ _ => rfl⟩
        simp only [q180_0, q180_1, q180_4, q180_7, q180_8, q180_11, q180_14, q180_15, q180_16, q180_17, q180_20, q180_21, q180_22, q180_23, q180_26, q180_27, q180_30, q180_31, q180_32, q180_33, q180_36, q180_38, q180_39, q180_40, q180_43, q180_44, q180_45, q180_46, q180_49, q180_50, q180_51, q180_54, q180_56, q180_57, q180_59, q180_62, q180_63, q180_66, q180_68, q180_71, q180_72, q180_73, q180_76, q180_77, q180_78, q180_80, q180_81, q180_84, q180_86, q180_87, q180_90, q180_91, q180_92, q180_94, q180_95, q180_98, q180_100, q180_101, q180_102, q180_103, q180_106, q180_107, q180_109, q180_112, q180_113, q180_116, q180_117, q180_119, q180_120, q180_122, q180_124, q180_126, q180_129, q180_131, q180_134, q180_136, q180_137, q180_138, q180_140, q180_141, q180_144, q180_146, q180_148, q180_149, q180_152, q180_154, q180_155, q180_156, q180_158, q180_159, q180_161, q180_162, q180_163, q180_166, q180_168, q180_169, q180_170, q180_171, q180_172, q180_174, q180_175, q180_176, q180_177, q180_180, q180_183, q180_185, m_isTape, eq_true hv, eq_true hw, i4, f1, s1, zCall_some, Option.toList, List.cons_append, List.nil_append, zb_0, zb_1, zem, z01, z11, nI_add, ↓reduceIte, not_true_eq_false, not_false_eq_true, n0T, n1F, n11T, true_or, or_true, false_or]
      · by_cases s2 : (T u).1 = -1
        · rw [if_pos (Or.inr s2)]
          refine ⟨j, ?_, hT, fun _ _ => rfl⟩
          simp only [q180_0, q180_1, q180_4, q180_7, q180_8, q180_11, q180_14, q180_15, q180_16, q180_17, q180_20, q180_21, q180_22, q180_23, q180_26, q180_27, q180_30, q180_31, q180_32, q180_33, q180_36, q180_38, q180_39, q180_40, q180_43, q180_44, q180_45, q180_46, q180_49, q180_50, q180_51, q180_54, q180_56, q180_57, q180_59, q180_62, q180_63, q180_66, q180_68, q180_71, q180_72, q180_73, q180_76, q180_77, q180_78, q180_80, q180_81, q180_84, q180_86, q180_87, q180_90, q180_91, q180_92, q180_94, q180_95, q180_98, q180_100, q180_101, q180_102, q180_103, q180_106, q180_107, q180_109, q180_112, q180_113, q180_116, q180_117, q180_119, q180_120, q180_122, q180_124, q180_126, q180_129, q180_131, q180_134, q180_136, q180_137, q180_138, q180_140, q180_141, q180_144, q180_146, q180_148, q180_149, q180_152, q180_154, q180_155, q180_156, q180_158, q180_159, q180_161, q180_162, q180_163, q180_166, q180_168, q180_169, q180_170, q180_171, q180_172, q180_174, q180_175, q180_176, q180_177, q180_180, q180_183, q180_185, m_isTape, eq_true hv, eq_true hw, i4, k4, f1, g1, s1, s2, zCall_some, Option.toList, List.cons_append, List.nil_append, zb_0, zb_1, zem, z01, z11, nI_add, ↓reduceIte, not_true_eq_false, not_false_eq_true, n0T, n1F, n11T, true_or, or_true, false_or]
        · rw [if_neg (fun z => z.elim s1 s2)]
          by_cases s3 : (T t).1 = (T u).1
          · rw [if_pos s3]
            by_cases hn : n < 0
            · rw [if_neg (fun z => z.1.2.1 hn)]
              refine ⟨j, ?_, hT, fun _ _ => rfl⟩
              simp only [q180_0, q180_1, q180_4, q180_7, q180_8, q180_11, q180_14, q180_15, q180_16, q180_17, q180_20, q180_21, q180_22, q180_23, q180_26, q180_27, q180_30, q180_31, q180_32, q180_33, q180_36, q180_38, q180_39, q180_40, q180_43, q180_44, q180_45, q180_46, q180_49, q180_50, q180_51, q180_54, q180_56, q180_57, q180_59, q180_62, q180_63, q180_66, q180_68, q180_71, q180_72, q180_73, q180_76, q180_77, q180_78, q180_80, q180_81, q180_84, q180_86, q180_87, q180_90, q180_91, q180_92, q180_94, q180_95, q180_98, q180_100, q180_101, q180_102, q180_103, q180_106, q180_107, q180_109, q180_112, q180_113, q180_116, q180_117, q180_119, q180_120, q180_122, q180_124, q180_126, q180_129, q180_131, q180_134, q180_136, q180_137, q180_138, q180_140, q180_141, q180_144, q180_146, q180_148, q180_149, q180_152, q180_154, q180_155, q180_156, q180_158, q180_159, q180_161, q180_162, q180_163, q180_166, q180_168, q180_169, q180_170, q180_171, q180_172, q180_174, q180_175, q180_176, q180_177, q180_180, q180_183, q180_185, m_isTape, eq_true hv, eq_true hw, i4, k4, f1, g1, s1, s2, eq_true s3, hn, zCall_some, Option.toList, List.cons_append, List.nil_append, zb_0, zb_1, zem, z01, z11, nI_add, ↓reduceIte, not_true_eq_false, not_false_eq_true, n0T, n1F, n11T, true_or, or_true, false_or]
            · by_cases hi : i < 0
              · rw [if_neg (fun z => z.1.1 hi)]
                refine ⟨j, ?_, hT, fun _ _ => rfl⟩
                simp only [q180_0, q180_1, q180_4, q180_7, q180_8, q180_11, q180_14, q180_15, q180_16, q180_17, q180_20, q180_21, q180_22, q180_23, q180_26, q180_27, q180_30, q180_31, q180_32, q180_33, q180_36, q180_38, q180_39, q180_40, q180_43, q180_44, q180_45, q180_46, q180_49, q180_50, q180_51, q180_54, q180_56, q180_57, q180_59, q180_62, q180_63, q180_66, q180_68, q180_71, q180_72, q180_73, q180_76, q180_77, q180_78, q180_80, q180_81, q180_84, q180_86, q180_87, q180_90, q180_91, q180_92, q180_94, q180_95, q180_98, q180_100, q180_101, q180_102, q180_103, q180_106, q180_107, q180_109, q180_112, q180_113, q180_116, q180_117, q180_119, q180_120, q180_122, q180_124, q180_126, q180_129, q180_131, q180_134, q180_136, q180_137, q180_138, q180_140, q180_141, q180_144, q180_146, q180_148, q180_149, q180_152, q180_154, q180_155, q180_156, q180_158, q180_159, q180_161, q180_162, q180_163, q180_166, q180_168, q180_169, q180_170, q180_171, q180_172, q180_174, q180_175, q180_176, q180_177, q180_180, q180_183, q180_185, m_isTape, eq_true hv, eq_true hw, i4, k4, f1, g1, s1, s2, eq_true s3, hn, hi, zCall_some, Option.toList, List.cons_append, List.nil_append, zb_0, zb_1, zem, z01, z11, nI_add, ↓reduceIte, not_true_eq_false, not_false_eq_true, n0T, n1F, n11T, true_or, or_true, false_or]
              · by_cases hk : k < 0
                · rw [if_neg (fun z => z.2.1 hk)]
                  refine ⟨j, ?_, hT, fun _ _ => rfl⟩
                  simp only [q180_0, q180_1, q180_4, q180_7, q180_8, q180_11, q180_14, q180_15, q180_16, q180_17, q180_20, q180_21, q180_22, q180_23, q180_26, q180_27, q180_30, q180_31, q180_32, q180_33, q180_36, q180_38, q180_39, q180_40, q180_43, q180_44, q180_45, q180_46, q180_49, q180_50, q180_51, q180_54, q180_56, q180_57, q180_59, q180_62, q180_63, q180_66, q180_68, q180_71, q180_72, q180_73, q180_76, q180_77, q180_78, q180_80, q180_81, q180_84, q180_86, q180_87, q180_90, q180_91, q180_92, q180_94, q180_95, q180_98, q180_100, q180_101, q180_102, q180_103, q180_106, q180_107, q180_109, q180_112, q180_113, q180_116, q180_117, q180_119, q180_120, q180_122, q180_124, q180_126, q180_129, q180_131, q180_134, q180_136, q180_137, q180_138, q180_140, q180_141, q180_144, q180_146, q180_148, q180_149, q180_152, q180_154, q180_155, q180_156, q180_158, q180_159, q180_161, q180_162, q180_163, q180_166, q180_168, q180_169, q180_170, q180_171, q180_172, q180_174, q180_175, q180_176, q180_177, q180_180, q180_183, q180_185, m_isTape, eq_true hv, eq_true hw, i4, k4, f1, g1, s1, s2, eq_true s3, hn, hi, hk, zCall_some, Option.toList, List.cons_append, List.nil_append, zb_0, zb_1, zem, z01, z11, nI_add, ↓reduceIte, not_true_eq_false, not_false_eq_true, n0T, n1F, n11T, true_or, or_true, false_or]
                · obtain ⟨x, x1, rfl⟩ := nI_of hi
                  obtain ⟨y, y1, rfl⟩ := nI_of hk
                  obtain ⟨m, m1, rfl⟩ := nI_of hn
                  have ex : (nI x).toNatClampNeg = x := nI_clamp x1
                  have ey : (nI y).toNatClampNeg = y := nI_clamp y1
                  have em : (nI m).toNatClampNeg = m := nI_clamp m1
                  have q1 : (nI (T t).2.1 - nI m < nI x) = ¬ (x + m ≤ (T t).2.1) := propext (sh_gt (by omega) x1 m1)
                  have q2 : (nI y ≤ nI (T u).2.1 - nI m) = (y + m ≤ (T u).2.1) := propext (sh_in (by omega) y1 m1)
                  by_cases w1 : x + m ≤ (T t).2.1
                  · by_cases w2 : y + m ≤ (T u).2.1
                    · have hh : hsP (nI x) (nI m) (T t).2.1 ∧ hsP (nI y) (nI m) (T u).2.1 := ⟨⟨hi, hn, by rw [ex, em]; exact w1⟩, ⟨hk, hn, by rw [ey, em]; exact w2⟩⟩
                      rw [if_pos hh, ex, ey, em]
                      have fin : ∀ j' : zJ, (∀ p, p < 360 → j' 106 (nI p) = if 60 * u + y ≤ p ∧ p < 60 * u + y + m then j 106 (nI (60 * t + x + (p - (60 * u + y)))) else j 106 (nI p)) → MT (tup T u ((T u).1, (T u).2.1, fun q => if y ≤ q ∧ q < y + m then (T t).2.2 (x + (q - y)) else (T u).2.2 q)) a j' := by
                        intro j' hj
                        refine hT.up hV (x := ((T u).1, (T u).2.1, fun q => if y ≤ q ∧ q < y + m then (T t).2.2 (x + (q - y)) else (T u).2.2 q)) g1 g2 (fun q hq => ?_) (fun _ _ _ => ⟨rfl, rfl⟩) (fun p hp hp2 => by rw [hj p hp, if_neg (by omega)])
                        dsimp only at hq ⊢
                        rw [hj _ (by omega)]
                        by_cases c : y ≤ q ∧ q < y + m
                        · rw [if_pos c, if_pos (by omega), ← f3 _ (by omega)]
                          congr 2
                          omega
                        · rw [if_neg c, if_neg (by omega)]
                          exact g3 q hq
                      have qt : (nI t = nI u) = (t = u) := propext (nI_eq (by omega) (by omega))
                      by_cases htu : t = u
                      · by_cases hxy : x < y
                        · have c1 : ¬ nI y ≤ nI x := nI_ge hxy y1
                          obtain ⟨j', r1, r2, r3⟩ := sh_up (sc := sc) (F := cf sc (d + 2)) (f := f) (a := a) (j := j) (x := x) (y := y) (m := m) ht hu (by omega) (by omega) (by omega)
                          refine ⟨j', ?_, fin j' r2, r3⟩
                          simp only [q180_0, q180_1, q180_4, q180_7, q180_8, q180_11, q180_14, q180_15, q180_16, q180_17, q180_20, q180_21, q180_22, q180_23, q180_26, q180_27, q180_30, q180_31, q180_32, q180_33, q180_36, q180_38, q180_39, q180_40, q180_43, q180_44, q180_45, q180_46, q180_49, q180_50, q180_51, q180_54, q180_56, q180_57, q180_59, q180_62, q180_63, q180_66, q180_68, q180_71, q180_72, q180_73, q180_76, q180_77, q180_78, q180_80, q180_81, q180_84, q180_86, q180_87, q180_90, q180_91, q180_92, q180_94, q180_95, q180_98, q180_100, q180_101, q180_102, q180_103, q180_106, q180_107, q180_109, q180_112, q180_113, q180_116, q180_117, q180_119, q180_120, q180_124, q180_126, q180_129, q180_131, q180_134, q180_136, q180_137, q180_138, q180_140, q180_141, q180_144, q180_146, q180_148, q180_149, q180_152, q180_154, q180_155, q180_156, q180_158, q180_159, q180_161, q180_162, q180_163, q180_166, q180_168, q180_169, q180_170, q180_171, q180_172, q180_174, q180_175, q180_176, q180_177, q180_180, q180_183, q180_185, m_isTape, eq_true hv, eq_true hw, i4, i5, k4, k5, f1, f2, g1, g2, s1, s2, eq_true s3, hn, hi, hk, q1, q2, w1, w2, qt, eq_true htu, c1, r1, zCall_some, Option.toList, List.cons_append, List.nil_append, zb_0, zb_1, zem, z01, z11, nI_add, ↓reduceIte, not_true_eq_false, not_false_eq_true, n0T, n1F, n11T, true_or, or_true, false_or]
                        · have c1 : nI y ≤ nI x := nI_le (by omega) x1
                          obtain ⟨j', r1, r2, r3⟩ := sh_dn (sc := sc) (F := cf sc (d + 2)) (f := f) (a := a) (j := j) (x := x) (y := y) (m := m) ht hu (by omega) (by omega) (by omega)
                          refine ⟨j', ?_, fin j' r2, r3⟩
                          simp only [q180_0, q180_1, q180_4, q180_7, q180_8, q180_11, q180_14, q180_15, q180_16, q180_17, q180_20, q180_21, q180_22, q180_23, q180_26, q180_27, q180_30, q180_31, q180_32, q180_33, q180_36, q180_38, q180_39, q180_40, q180_43, q180_44, q180_45, q180_46, q180_49, q180_50, q180_51, q180_54, q180_56, q180_57, q180_59, q180_62, q180_63, q180_66, q180_68, q180_71, q180_72, q180_73, q180_76, q180_77, q180_78, q180_80, q180_81, q180_84, q180_86, q180_87, q180_90, q180_91, q180_92, q180_94, q180_95, q180_98, q180_100, q180_101, q180_102, q180_103, q180_106, q180_107, q180_109, q180_112, q180_113, q180_116, q180_117, q180_119, q180_120, q180_124, q180_126, q180_129, q180_131, q180_134, q180_136, q180_137, q180_138, q180_140, q180_141, q180_144, q180_146, q180_148, q180_149, q180_152, q180_154, q180_155, q180_156, q180_158, q180_159, q180_161, q180_162, q180_163, q180_166, q180_168, q180_169, q180_170, q180_171, q180_172, q180_174, q180_175, q180_176, q180_177, q180_180, q180_183, q180_185, m_isTape, eq_true hv, eq_true hw, i4, i5, k4, k5, f1, f2, g1, g2, s1, s2, eq_true s3, hn, hi, hk, q1, q2, w1, w2, qt, eq_true htu, c1, r1, zCall_some, Option.toList, List.cons_append, List.nil_append, zb_0, zb_1, zem, z01, z11, nI_add, ↓reduceIte, not_true_eq_false, not_false_eq_true, n0T, n1F, n11T, true_or, or_true, false_or]
                      · obtain ⟨j', r1, r2, r3⟩ := sh_dn (sc := sc) (F := cf sc (d + 2)) (f := f) (a := a) (j := j) (x := x) (y := y) (m := m) ht hu (by omega) (by omega) (by omega)
                        refine ⟨j', ?_, fin j' r2, r3⟩
                        simp only [q180_0, q180_1, q180_4, q180_7, q180_8, q180_11, q180_14, q180_15, q180_16, q180_17, q180_20, q180_21, q180_22, q180_23, q180_26, q180_27, q180_30, q180_31, q180_32, q180_33, q180_36, q180_38, q180_39, q180_40, q180_43, q180_44, q180_45, q180_46, q180_49, q180_50, q180_51, q180_54, q180_56, q180_57, q180_59, q180_62, q180_63, q180_66, q180_68, q180_71, q180_72, q180_73, q180_76, q180_77, q180_78, q180_80, q180_81, q180_84, q180_86, q180_87, q180_90, q180_91, q180_92, q180_94, q180_95, q180_98, q180_100, q180_101, q180_102, q180_103, q180_106, q180_107, q180_109, q180_112, q180_113, q180_116, q180_117, q180_119, q180_120, q180_124, q180_126, q180_129, q180_131, q180_134, q180_136, q180_137, q180_138, q180_140, q180_141, q180_144, q180_146, q180_148, q180_149, q180_152, q180_154, q180_155, q180_156, q180_158, q180_159, q180_161, q180_162, q180_163, q180_166, q180_168, q180_169, q180_170, q180_171, q180_172, q180_174, q180_175, q180_176, q180_177, q180_180, q180_183, q180_185, m_isTape, eq_true hv, eq_true hw, i4, i5, k4, k5, f1, f2, g1, g2, s1, s2, eq_true s3, hn, hi, hk, q1, q2, w1, w2, qt, eq_false htu, r1, zCall_some, Option.toList, List.cons_append, List.nil_append, zb_0, zb_1, zem, z01, z11, nI_add, ↓reduceIte, not_true_eq_false, not_false_eq_true, n0T, n1F, n11T, true_or, or_true, false_or]
                    · have hh : ¬ (hsP (nI x) (nI m) (T t).2.1 ∧ hsP (nI y) (nI m) (T u).2.1) := fun z => w2 (by have := z.2.2.2; rw [ey, em] at this; exact this)
                      rw [if_neg hh]
                      refine ⟨j, ?_, hT, fun _ _ => rfl⟩
                      simp only [q180_0, q180_1, q180_4, q180_7, q180_8, q180_11, q180_14, q180_15, q180_16, q180_17, q180_20, q180_21, q180_22, q180_23, q180_26, q180_27, q180_30, q180_31, q180_32, q180_33, q180_36, q180_38, q180_39, q180_40, q180_43, q180_44, q180_45, q180_46, q180_49, q180_50, q180_51, q180_54, q180_56, q180_57, q180_59, q180_62, q180_63, q180_66, q180_68, q180_71, q180_72, q180_73, q180_76, q180_77, q180_78, q180_80, q180_81, q180_84, q180_86, q180_87, q180_90, q180_91, q180_92, q180_94, q180_95, q180_98, q180_100, q180_101, q180_102, q180_103, q180_106, q180_107, q180_109, q180_112, q180_113, q180_116, q180_117, q180_119, q180_120, q180_124, q180_126, q180_129, q180_131, q180_134, q180_136, q180_137, q180_138, q180_140, q180_141, q180_144, q180_146, q180_148, q180_149, q180_152, q180_154, q180_155, q180_156, q180_158, q180_159, q180_161, q180_162, q180_163, q180_166, q180_168, q180_169, q180_170, q180_171, q180_172, q180_174, q180_175, q180_176, q180_177, q180_180, q180_183, q180_185, m_isTape, eq_true hv, eq_true hw, i4, i5, k4, k5, f1, f2, g1, g2, s1, s2, eq_true s3, hn, hi, hk, q1, q2, w1, w2, zCall_some, Option.toList, List.cons_append, List.nil_append, zb_0, zb_1, zem, z01, z11, nI_add, ↓reduceIte, not_true_eq_false, not_false_eq_true, n0T, n1F, n11T, true_or, or_true, false_or]
                  · have hh : ¬ (hsP (nI x) (nI m) (T t).2.1 ∧ hsP (nI y) (nI m) (T u).2.1) := fun z => w1 (by have := z.1.2.2; rw [ex, em] at this; exact this)
                    rw [if_neg hh]
                    refine ⟨j, ?_, hT, fun _ _ => rfl⟩
                    simp only [q180_0, q180_1, q180_4, q180_7, q180_8, q180_11, q180_14, q180_15, q180_16, q180_17, q180_20, q180_21, q180_22, q180_23, q180_26, q180_27, q180_30, q180_31, q180_32, q180_33, q180_36, q180_38, q180_39, q180_40, q180_43, q180_44, q180_45, q180_46, q180_49, q180_50, q180_51, q180_54, q180_56, q180_57, q180_59, q180_62, q180_63, q180_66, q180_68, q180_71, q180_72, q180_73, q180_76, q180_77, q180_78, q180_80, q180_81, q180_84, q180_86, q180_87, q180_90, q180_91, q180_92, q180_94, q180_95, q180_98, q180_100, q180_101, q180_102, q180_103, q180_106, q180_107, q180_109, q180_112, q180_113, q180_116, q180_117, q180_119, q180_120, q180_124, q180_126, q180_129, q180_131, q180_134, q180_136, q180_137, q180_138, q180_140, q180_141, q180_144, q180_146, q180_148, q180_149, q180_152, q180_154, q180_155, q180_156, q180_158, q180_159, q180_161, q180_162, q180_163, q180_166, q180_168, q180_169, q180_170, q180_171, q180_172, q180_174, q180_175, q180_176, q180_177, q180_180, q180_183, q180_185, m_isTape, eq_true hv, eq_true hw, i4, i5, k4, k5, f1, f2, g1, g2, s1, s2, eq_true s3, hn, hi, hk, q1, q2, w1, zCall_some, Option.toList, List.cons_append, List.nil_append, zb_0, zb_1, zem, z01, z11, nI_add, ↓reduceIte, not_true_eq_false, not_false_eq_true, n0T, n1F, n11T, true_or, or_true, false_or]
          · rw [if_neg s3]
            refine ⟨j, ?_, hT, fun _ _ => rfl⟩
            simp only [q180_0, q180_1, q180_4, q180_7, q180_8, q180_11, q180_14, q180_15, q180_16, q180_17, q180_20, q180_21, q180_22, q180_23, q180_26, q180_27, q180_30, q180_31, q180_32, q180_33, q180_36, q180_38, q180_39, q180_40, q180_43, q180_44, q180_45, q180_46, q180_49, q180_50, q180_51, q180_54, q180_56, q180_57, q180_59, q180_62, q180_63, q180_66, q180_68, q180_71, q180_72, q180_73, q180_76, q180_77, q180_78, q180_80, q180_81, q180_84, q180_86, q180_87, q180_90, q180_91, q180_92, q180_94, q180_95, q180_98, q180_100, q180_101, q180_102, q180_103, q180_106, q180_107, q180_109, q180_112, q180_113, q180_116, q180_117, q180_119, q180_120, q180_122, q180_124, q180_126, q180_129, q180_131, q180_134, q180_136, q180_137, q180_138, q180_140, q180_141, q180_144, q180_146, q180_148, q180_149, q180_152, q180_154, q180_155, q180_156, q180_158, q180_159, q180_161, q180_162, q180_163, q180_166, q180_168, q180_169, q180_170, q180_171, q180_172, q180_174, q180_175, q180_176, q180_177, q180_180, q180_183, q180_185, m_isTape, eq_true hv, eq_true hw, i4, k4, f1, g1, s1, s2, eq_false s3, zCall_some, Option.toList, List.cons_append, List.nil_append, zb_0, zb_1, zem, z01, z11, nI_add, ↓reduceIte, not_true_eq_false, not_false_eq_true, n0T, n1F, n11T, true_or, or_true, false_or]
    · rw [if_neg (fun q => hw q.2)]
      refine ⟨j, ?_, hT, fun _ _ => rfl⟩
      simp only [q180_0, q180_1, q180_4, q180_7, q180_8, q180_11, q180_14, q180_15, q180_16, q180_17, q180_20, q180_21, q180_22, q180_23, q180_26, q180_27, q180_30, q180_31, q180_32, q180_33, q180_36, q180_38, q180_39, q180_40, q180_43, q180_44, q180_45, q180_46, q180_49, q180_50, q180_51, q180_54, q180_56, q180_57, q180_59, q180_62, q180_63, q180_66, q180_68, q180_71, q180_72, q180_73, q180_76, q180_77, q180_78, q180_80, q180_81, q180_84, q180_86, q180_87, q180_90, q180_91, q180_92, q180_94, q180_95, q180_98, q180_100, q180_101, q180_102, q180_103, q180_106, q180_107, q180_109, q180_112, q180_113, q180_116, q180_117, q180_119, q180_120, q180_122, q180_124, q180_126, q180_129, q180_131, q180_134, q180_136, q180_137, q180_138, q180_140, q180_141, q180_144, q180_146, q180_148, q180_149, q180_152, q180_154, q180_155, q180_156, q180_158, q180_159, q180_161, q180_162, q180_163, q180_166, q180_168, q180_169, q180_170, q180_171, q180_172, q180_174, q180_175, q180_176, q180_177, q180_180, q180_183, q180_185, m_isTape, eq_true hv, eq_false hw, zCall_some, Option.toList, List.cons_append, List.nil_append, zb_0, zb_1, zem, z01, z11, nI_add, ↓reduceIte, not_true_eq_false, not_false_eq_true, n0T, n1F, n11T, true_or, or_true, false_or]
  · rw [if_neg (fun q => hv q.1)]
    refine ⟨j, ?_, hT, fun _ _ => rfl⟩
    simp only [q180_0, q180_1, q180_4, q180_7, q180_8, q180_11, q180_14, q180_15, q180_16, q180_17, q180_20, q180_21, q180_22, q180_23, q180_26, q180_27, q180_30, q180_31, q180_32, q180_33, q180_36, q180_38, q180_39, q180_40, q180_43, q180_44, q180_45, q180_46, q180_49, q180_50, q180_51, q180_54, q180_56, q180_57, q180_59, q180_62, q180_63, q180_66, q180_68, q180_71, q180_72, q180_73, q180_76, q180_77, q180_78, q180_80, q180_81, q180_84, q180_86, q180_87, q180_90, q180_91, q180_92, q180_94, q180_95, q180_98, q180_100, q180_101, q180_102, q180_103, q180_106, q180_107, q180_109, q180_112, q180_113, q180_116, q180_117, q180_119, q180_120, q180_122, q180_124, q180_126, q180_129, q180_131, q180_134, q180_136, q180_137, q180_138, q180_140, q180_141, q180_144, q180_146, q180_148, q180_149, q180_152, q180_154, q180_155, q180_156, q180_158, q180_159, q180_161, q180_162, q180_163, q180_166, q180_168, q180_169, q180_170, q180_171, q180_172, q180_174, q180_175, q180_176, q180_177, q180_180, q180_183, q180_185, m_isTape, eq_false hv, zCall_some, Option.toList, List.cons_append, List.nil_append, zb_0, zb_1, zem, z01, z11, nI_add, ↓reduceIte, not_true_eq_false, not_false_eq_true, n0T, n1F, n11T, true_or, or_true, false_or]
