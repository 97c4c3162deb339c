/-! ===== the reference: over, uneven, evenest, fits, odds, mean ===== -/
theorem MF.rf {f : zF} {a : zA} : MF f f a a := ⟨fun _ _ => rfl, fun _ _ _ _ => rfl, fun _ _ => rfl⟩
theorem MF.tr {f f1 f2 : zF} {a a1 a2 : zA} (h : MF f f1 a a1) (g : MF f1 f2 a1 a2) : MF f f2 a a2 := ⟨fun k hk => (g.1 k hk).trans (h.1 k hk), fun i h1 h2 h3 => (g.2.1 i h1 h2 h3).trans (h.2.1 i h1 h2 h3), fun k hk => (g.2.2 k hk).trans (h.2.2 k hk)⟩
theorem ovF_s (σ : Nat → Nat) (g : Nat) (b : Bool) (i : Nat) : ovF σ g b (i + 1) = ovF σ g b i + (if b = true then hvOf σ (σ 3 + i) (decide (i = 0)) g else ngF σ (σ 3 + i) (decide (i = 0)) g) := rfl
theorem y_over {sc : Int32 × (Int32 → Int32)} {f : zF} {a : zA} {j : zJ} {d : Nat} {σ : Nat → Nat} {v n what : Int32} (hR : MR σ a) (hV : VS σ) : ∃ (f' : zF) (a' : zA), cf sc (d + 6) 151 [.ref 85, .int v, .int n, .int what] f a j = some (some (.int (sOver σ v n what)), f', a', j) ∧ MF f f' a a' := by
  have hVR := hV.1.1
  have hn := hVR.1
  have h9 := hV.1.2.2.2.2
  have hr := hV.1.2.2.2.1
  have hF := m_isField (sc := sc) (d := d + 3) (f := f) (j := j) (v := v) hR hn
  have ix3 : zIx 21 86 (nI 3) := ix86 (by omega)
  rw [en151]
  unfold sOver
  by_cases hv : zHas v (σ 0)
  · by_cases hb : zBtw what 0 1
    · rw [if_pos ⟨hv, hb⟩]
      by_cases hm : zBtw n 1 12
      · rw [if_pos hm]
        obtain ⟨g, hg, rfl⟩ := zHas_of (by omega) hv
        obtain ⟨m, m1, m2, rfl⟩ := zBtw_of (by omega) (by omega) hm
        rw [nI_clamp (n := g) (by omega), nI_clamp (n := m) (by omega)]
        have i93 : zIx 21 93 (nI g) := ix93 (by omega)
        have i95 : zIx 21 95 (nI g) := ix95 (by omega)
        have key := zLoopP (n := m) (g := fun s : (Nat × zF × zA) => rn sc (cf sc (d + 5)) 151 41 [.ref 85, .int (nI g), .int (nI m), .int what, .int (nI (ovF σ g (decide (what = nI 0)) s.1)), .int (nI s.1)] [] s.2.1 s.2.2 j) (P := fun i s => s.1 = i ∧ MF f s.2.1 a s.2.2) (by
          intro i s hi hP
          obtain ⟨i', f1, a1⟩ := s
          obtain ⟨rfl, hM⟩ := hP
          dsimp only at hM hi
          have hR1 := hM.r hR
          have e3 := hR1 3 (by omega)
          have c1 : ¬ nI m ≤ nI i' := nI_ge hi (by omega)
          obtain ⟨f2, a2, t1, t2, t3⟩ := m_tells (sc := sc) (d := d) (f := f1) (j := j) (w := σ 3 + i') (tr := decide (i' = 0)) hR1 hVR (by omega) hr (fun q => by
            have q := of_decide_eq_true q
            rw [q]
            exact hV.2.1)
          refine ⟨(i' + 1, f2, a2), ⟨rfl, hM.tr t3⟩, ?_⟩
          have r93 := t2.2.1 g hg
          have r95 := (t2.2.2 g hg).2
          dsimp only
          rw [q151_41, ovF_s]
          by_cases z : i' = 0
          · rw [if_pos (decide_eq_true z)] at t1
            have z' : nI i' = 0 := by rw [z]; rfl
            by_cases h0 : what = nI 0
            · have h0' : what = 0 := h0
              rw [if_pos (decide_eq_true h0)]
              simp only [q151_0, q151_1, q151_2, q151_5, q151_8, q151_9, q151_10, q151_11, q151_12, q151_15, q151_18, q151_19, q151_20, q151_21, q151_22, q151_23, q151_26, q151_29, q151_32, q151_34, q151_35, q151_36, q151_38, q151_39, q151_43, q151_44, q151_47, q151_48, q151_49, q151_52, q151_53, q151_54, q151_56, q151_57, q151_59, q151_62, q151_63, q151_66, q151_67, q151_70, q151_72, q151_73, q151_76, q151_77, q151_80, q151_81, q151_82, q151_85, q151_86, q151_89, q151_90, q151_91, q151_92, q151_94, q151_97, q151_100, q151_102, ix3, e3, c1, eq_true z', t1, eq_true h0', i93, r93, zCall_some, Option.toList, List.cons_append, List.nil_append, zb_0, zb_1, zem, z01, z11, nI_add, ↓reduceIte, not_true_eq_false, not_false_eq_true, n0T, n1F, n11T, true_or, or_true, false_or]
            · have h0' : ¬ what = 0 := h0
              rw [if_neg (fun q => h0 (of_decide_eq_true q))]
              simp only [q151_0, q151_1, q151_2, q151_5, q151_8, q151_9, q151_10, q151_11, q151_12, q151_15, q151_18, q151_19, q151_20, q151_21, q151_22, q151_23, q151_26, q151_29, q151_32, q151_34, q151_35, q151_36, q151_38, q151_39, q151_43, q151_44, q151_47, q151_48, q151_49, q151_52, q151_53, q151_54, q151_56, q151_57, q151_59, q151_62, q151_63, q151_66, q151_67, q151_70, q151_72, q151_73, q151_76, q151_77, q151_80, q151_81, q151_82, q151_85, q151_86, q151_89, q151_90, q151_91, q151_92, q151_94, q151_97, q151_100, q151_102, ix3, e3, c1, eq_true z', t1, eq_false h0', i95, r95, zCall_some, Option.toList, List.cons_append, List.nil_append, zb_0, zb_1, zem, z01, z11, nI_add, ↓reduceIte, not_true_eq_false, not_false_eq_true, n0T, n1F, n11T, true_or, or_true, false_or]
          · rw [if_neg (fun q => z (of_decide_eq_true q))] at t1
            have z' : ¬ nI i' = 0 := nI_ne0 (by omega) (by omega)
            by_cases h0 : what = nI 0
            · have h0' : what = 0 := h0
              rw [if_pos (decide_eq_true h0)]
              simp only [q151_0, q151_1, q151_2, q151_5, q151_8, q151_9, q151_10, q151_11, q151_12, q151_15, q151_18, q151_19, q151_20, q151_21, q151_22, q151_23, q151_26, q151_29, q151_32, q151_34, q151_35, q151_36, q151_38, q151_39, q151_43, q151_44, q151_47, q151_48, q151_49, q151_52, q151_53, q151_54, q151_56, q151_57, q151_59, q151_62, q151_63, q151_66, q151_67, q151_70, q151_72, q151_73, q151_76, q151_77, q151_80, q151_81, q151_82, q151_85, q151_86, q151_89, q151_90, q151_91, q151_92, q151_94, q151_97, q151_100, q151_102, ix3, e3, c1, eq_false z', t1, eq_true h0', i93, r93, zCall_some, Option.toList, List.cons_append, List.nil_append, zb_0, zb_1, zem, z01, z11, nI_add, ↓reduceIte, not_true_eq_false, not_false_eq_true, n0T, n1F, n11T, true_or, or_true, false_or]
            · have h0' : ¬ what = 0 := h0
              rw [if_neg (fun q => h0 (of_decide_eq_true q))]
              simp only [q151_0, q151_1, q151_2, q151_5, q151_8, q151_9, q151_10, q151_11, q151_12, q151_15, q151_18, q151_19, q151_20, q151_21, q151_22, q151_23, q151_26, q151_29, q151_32, q151_34, q151_35, q151_36, q151_38, q151_39, q151_43, q151_44, q151_47, q151_48, q151_49, q151_52, q151_53, q151_54, q151_56, q151_57, q151_59, q151_62, q151_63, q151_66, q151_67, q151_70, q151_72, q151_73, q151_76, q151_77, q151_80, q151_81, q151_82, q151_85, q151_86, q151_89, q151_90, q151_91, q151_92, q151_94, q151_97, q151_100, q151_102, ix3, e3, c1, eq_false z', t1, eq_false h0', i95, r95, zCall_some, Option.toList, List.cons_append, List.nil_append, zb_0, zb_1, zem, z01, z11, nI_add, ↓reduceIte, not_true_eq_false, not_false_eq_true, n0T, n1F, n11T, true_or, or_true, false_or]) (0, f, a) ⟨rfl, MF.rf⟩
        obtain ⟨⟨i, f1, a1⟩, ⟨hi, hM⟩, e⟩ := key
        dsimp only at hM e hi
        rw [hi] at e
        refine ⟨f1, a1, ?_, hM⟩
        have c1 : nI m ≤ nI m := nI_le (Nat.le_refl _) (by omega)
        simp only [q151_0, q151_1, q151_2, q151_5, q151_8, q151_9, q151_10, q151_11, q151_12, q151_15, q151_18, q151_19, q151_20, q151_21, q151_22, q151_23, q151_26, q151_29, q151_32, q151_34, q151_35, q151_36, q151_38, q151_39, q151_43, q151_44, q151_47, q151_48, q151_49, q151_52, q151_53, q151_54, q151_56, q151_57, q151_59, q151_62, q151_63, q151_66, q151_67, q151_70, q151_72, q151_73, q151_76, q151_77, q151_80, q151_81, q151_82, q151_85, q151_86, q151_89, q151_90, q151_91, q151_92, q151_94, q151_97, q151_100, q151_102, hF, eq_true hv, in01, eq_true hb, in112, eq_true hm, zCall_some, Option.toList, List.cons_append, List.nil_append, zb_0, zb_1, zem, z01, z11, nI_add, ↓reduceIte, not_true_eq_false, not_false_eq_true, n0T, n1F, n11T, true_or, or_true, false_or]
        refine Eq.trans (show _ = _ from e) ?_
        simp only [q151_41, q151_43, q151_44, q151_100, q151_102, c1, zCall_some, Option.toList, List.cons_append, List.nil_append, zb_0, zb_1, zem, z01, z11, nI_add, ↓reduceIte, not_true_eq_false, not_false_eq_true, n0T, n1F, n11T, true_or, or_true, false_or]
      · rw [if_neg hm]
        refine ⟨f, a, ?_, MF.rf⟩
        simp only [q151_0, q151_1, q151_2, q151_5, q151_8, q151_9, q151_10, q151_11, q151_12, q151_15, q151_18, q151_19, q151_20, q151_21, q151_22, q151_23, q151_26, q151_29, q151_32, q151_34, q151_35, q151_36, q151_38, q151_39, q151_43, q151_44, q151_47, q151_48, q151_49, q151_52, q151_53, q151_54, q151_56, q151_57, q151_59, q151_62, q151_63, q151_66, q151_67, q151_70, q151_72, q151_73, q151_76, q151_77, q151_80, q151_81, q151_82, q151_85, q151_86, q151_89, q151_90, q151_91, q151_92, q151_94, q151_97, q151_100, q151_102, hF, eq_true hv, in01, eq_true hb, in112, eq_false hm, zCall_some, Option.toList, List.cons_append, List.nil_append, zb_0, zb_1, zem, z01, z11, nI_add, ↓reduceIte, not_true_eq_false, not_false_eq_true, n0T, n1F, n11T, true_or, or_true, false_or]
    · rw [if_neg (fun q => hb q.2)]
      refine ⟨f, a, ?_, MF.rf⟩
      simp only [q151_0, q151_1, q151_2, q151_5, q151_8, q151_9, q151_10, q151_11, q151_12, q151_15, q151_18, q151_19, q151_20, q151_21, q151_22, q151_23, q151_26, q151_29, q151_32, q151_34, q151_35, q151_36, q151_38, q151_39, q151_43, q151_44, q151_47, q151_48, q151_49, q151_52, q151_53, q151_54, q151_56, q151_57, q151_59, q151_62, q151_63, q151_66, q151_67, q151_70, q151_72, q151_73, q151_76, q151_77, q151_80, q151_81, q151_82, q151_85, q151_86, q151_89, q151_90, q151_91, q151_92, q151_94, q151_97, q151_100, q151_102, hF, eq_true hv, in01, eq_false hb, zCall_some, Option.toList, List.cons_append, List.nil_append, zb_0, zb_1, zem, z01, z11, nI_add, ↓reduceIte, not_true_eq_false, not_false_eq_true, n0T, n1F, n11T, true_or, or_true, false_or]
  · rw [if_neg (fun q => hv q.1)]
    refine ⟨f, a, ?_, MF.rf⟩
    simp only [q151_0, q151_1, q151_2, q151_5, q151_8, q151_9, q151_10, q151_11, q151_12, q151_15, q151_18, q151_19, q151_20, q151_21, q151_22, q151_23, q151_26, q151_29, q151_32, q151_34, q151_35, q151_36, q151_38, q151_39, q151_43, q151_44, q151_47, q151_48, q151_49, q151_52, q151_53, q151_54, q151_56, q151_57, q151_59, q151_62, q151_63, q151_66, q151_67, q151_70, q151_72, q151_73, q151_76, q151_77, q151_80, q151_81, q151_82, q151_85, q151_86, q151_89, q151_90, q151_91, q151_92, q151_94, q151_97, q151_100, q151_102, hF, eq_false hv, zCall_some, Option.toList, List.cons_append, List.nil_append, zb_0, zb_1, zem, z01, z11, nI_add, ↓reduceIte, not_true_eq_false, not_false_eq_true, n0T, n1F, n11T, true_or, or_true, false_or]
theorem vu_1 {sc : Int32 × (Int32 → Int32)} {F : zCF} {f : zF} {a : zA} {j : zJ} {v1 v3 v4 : Value} : ∃ a' : zA, rn sc F 152 2 [.ref 85, v1, .int (nI 0), v3, v4] [] f a j = rn sc F 152 21 [.ref 85, v1, .int (nI 8), v3, v4] [] f a' j ∧ (∀ q, q < 8 → a' 103 (nI q) = nI 0) ∧ ∀ k, k ≠ 103 → a' k = a k := by
  have key := zLoopP (n := 8) (g := fun s : (Nat × zA) => rn sc F 152 2 [.ref 85, v1, .int (nI s.1), v3, v4] [] f s.2 j) (P := fun i s => s.1 = i ∧ (∀ q, q < i → s.2 103 (nI q) = nI 0) ∧ ∀ k, k ≠ 103 → s.2 k = a k) (by
    intro i s hi hP
    obtain ⟨i', a1⟩ := s
    obtain ⟨rfl, g1, g2⟩ := hP
    dsimp only at g1 g2 hi
    have c1 : ¬ nI 8 ≤ nI i' := nI_ge hi (by omega)
    have ix : zIx 21 103 (nI i') := ix103 hi
    refine ⟨(i' + 1, zuA a1 103 (nI i') (nI 0)), ⟨rfl, fun q hq => ?_, fun k hk => (zuA_nk hk).trans (g2 k hk)⟩, ?_⟩
    · dsimp only
      by_cases e : q = i'
      · rw [e]; exact zuA_eq
      · rw [zuA_ni (nI_ne (by omega) (by omega) e)]; exact g1 q (by omega)
    · dsimp only
      rw [q152_2]
      simp only [q152_3, q152_5, q152_8, q152_9, q152_12, q152_13, q152_14, q152_15, q152_18, c1, ix, zCall_some, Option.toList, List.cons_append, List.nil_append, zb_0, zb_1, zem, z01, z11, nI_add, ↓reduceIte, not_true_eq_false, not_false_eq_true, n0T, n1F, n11T, true_or, or_true, false_or]) (0, a) ⟨rfl, fun q hq => by omega, fun _ _ => rfl⟩
  obtain ⟨⟨i, a1⟩, ⟨hi, g1, g2⟩, e⟩ := key
  dsimp only at g1 g2 hi e
  rw [hi] at e
  refine ⟨a1, ?_, g1, g2⟩
  have c1 : nI 8 ≤ nI 8 := nI_le (Nat.le_refl _) (by omega)
  refine Eq.trans (show _ = _ from e) ?_
  simp only [q152_2, q152_3, q152_5, c1, zCall_some, Option.toList, List.cons_append, List.nil_append, zb_0, zb_1, zem, z01, z11, nI_add, ↓reduceIte, not_true_eq_false, not_false_eq_true, n0T, n1F, n11T, true_or, or_true, false_or]
theorem vu_2 {sc : Int32 × (Int32 → Int32)} {F : zCF} {f : zF} {j : zJ} {σ x y : Nat → Nat} {v1 v2 v4 : Value} (h8 : σ 0 ≤ 8) : ∀ (m g : Nat) (a : zA), g + m = σ 0 → MR σ a → (∀ q, q < σ 0 → a 95 (nI q) = nI (y q)) → (∀ q, q < σ 0 → a 103 (nI q) = nI (if q < g then x q + y q else x q)) →
    ∃ a' : zA, rn sc F 152 43 [.ref 85, v1, v2, .int (nI g), v4] [] f a j = rn sc F 152 74 [.ref 85, v1, v2, .int (nI (σ 0)), v4] [] f a' j ∧ (∀ q, q < σ 0 → a' 103 (nI q) = nI (x q + y q)) ∧ ∀ k, k ≠ 103 → a' k = a k := by
  have ix0 : zIx 21 86 (nI 0) := ix86 (by omega)
  intro m
  induction m with
  | zero =>
    intro g a hg hR hY hA
    have e : g = σ 0 := by omega
    subst e
    have e0 := hR 0 (by omega)
    have c1 : nI (σ 0) ≤ nI (σ 0) := nI_le (Nat.le_refl _) (by omega)
    refine ⟨a, ?_, fun q hq => by have := hA q hq; rwa [if_pos hq] at this, fun _ _ => rfl⟩
    simp only [q152_43, q152_44, q152_45, q152_48, q152_49, q152_50, ix0, e0, c1, zCall_some, Option.toList, List.cons_append, List.nil_append, zb_0, zb_1, zem, z01, z11, nI_add, ↓reduceIte, not_true_eq_false, not_false_eq_true, n0T, n1F, n11T, true_or, or_true, false_or]
  | succ m ih =>
    intro g a hg hR hY hA
    have hgn : g < σ 0 := by omega
    have e0 := hR 0 (by omega)
    have c1 : ¬ nI (σ 0) ≤ nI g := nI_ge hgn (by omega)
    have i95 : zIx 21 95 (nI g) := ix95 (by omega)
    have i103 : zIx 21 103 (nI g) := ix103 (by omega)
    have e1 : a 103 (nI g) = nI (x g) := by rw [hA g hgn, if_neg (by omega)]
    obtain ⟨a', h1, h2, h3⟩ := ih (g + 1) (zuA a 103 (nI g) (nI (x g + y g))) (by omega) (hR.of (zuA_nk (by omega))) (fun q hq => by rw [zuA_nk (by omega)]; exact hY q hq) (fun q hq => by
      by_cases e : q = g
      · rw [e, if_pos (by omega)]; exact zuA_eq
      · rw [zuA_ni (nI_ne (by omega) (by omega) e), hA q hq]
        by_cases z : q < g
        · rw [if_pos z, if_pos (by omega)]
        · rw [if_neg z, if_neg (by omega)])
    refine ⟨a', ?_, h2, fun k hk => by rw [h3 k hk, zuA_nk hk]⟩
    rw [← h1, q152_43]
    simp only [q152_0, q152_1, q152_2, q152_3, q152_5, q152_8, q152_9, q152_12, q152_13, q152_14, q152_15, q152_18, q152_21, q152_22, q152_23, q152_24, q152_25, q152_28, q152_29, q152_30, q152_33, q152_34, q152_35, q152_36, q152_37, q152_38, q152_41, q152_42, q152_44, q152_45, q152_48, q152_49, q152_50, q152_53, q152_54, q152_57, q152_58, q152_59, q152_60, q152_61, q152_64, q152_65, q152_66, q152_67, q152_68, q152_71, q152_77, q152_80, q152_81, q152_82, q152_83, q152_84, q152_85, q152_87, q152_89, q152_90, q152_93, q152_94, q152_95, q152_98, q152_99, q152_101, q152_104, q152_107, q152_110, q152_111, q152_114, q152_115, q152_118, q152_120, q152_121, q152_122, q152_125, q152_126, q152_129, q152_131, q152_132, q152_133, q152_134, q152_137, q152_138, q152_141, q152_143, q152_144, q152_145, q152_148, q152_149, q152_152, q152_154, q152_155, q152_156, q152_159, q152_162, q152_163, q152_164, q152_165, ix0, e0, c1, i95, i103, e1, hY g hgn, zCall_some, Option.toList, List.cons_append, List.nil_append, zb_0, zb_1, zem, z01, z11, nI_add, ↓reduceIte, not_true_eq_false, not_false_eq_true, n0T, n1F, n11T, true_or, or_true, false_or]
def oJ : Option Nat → Int32
  | none => -1
  | some y => nI y
theorem oJ_n : oJ none = -1 := rfl
theorem oJ_s (y : Nat) : oJ (some y) = nI y := rfl
theorem vu_3 {sc : Int32 × (Int32 → Int32)} {d : Nat} {f : zF} {a : zA} {j : zJ} {σ x : Nat → Nat} {v1 : Value} (hR : MR σ a) (hV : VR σ) (hx : ∀ g, g < σ 0 → x g ≤ 2000) (hA : ∀ q, q < σ 0 → a 103 (nI q) = nI (x q)) : ∀ (m g : Nat), g + m = σ 0 →
    rn sc (cf sc (d + 1)) 152 87 [.ref 85, v1, .int (oJ (mxO (prB σ) x g)), .int (oJ (mnO (prB σ) x g)), .int (nI g)] [] f a j = some (some (.int (nI ((mxO (prB σ) x (σ 0)).getD 0 - (mnO (prB σ) x (σ 0)).getD 0))), f, a, j) := by
  have hn := hV.1
  have ix0 : zIx 21 86 (nI 0) := ix86 (by omega)
  have e0 := hR 0 (by omega)
  intro m
  induction m with
  | zero =>
    intro g hg
    have e : g = σ 0 := by omega
    subst e
    have c1 : nI (σ 0) ≤ nI (σ 0) := nI_le (Nat.le_refl _) (by omega)
    rcases mn_mx (P := prB σ) (x := x) (σ 0) with ⟨h1, h2⟩ | ⟨y, z, h1, h2, h3⟩
    · rw [h1, h2]
      have e5 : oJ none - oJ none = nI 0 := by decide
      simp only [q152_87, q152_89, q152_90, q152_93, q152_94, q152_95, q152_162, q152_163, q152_164, q152_165, ix0, e0, c1, e5, Option.getD_none, Nat.sub_self, zCall_some, Option.toList, List.cons_append, List.nil_append, zb_0, zb_1, zem, z01, z11, nI_add, ↓reduceIte, not_true_eq_false, not_false_eq_true, n0T, n1F, n11T, true_or, or_true, false_or]
    · rw [h1, h2]
      have e5 : oJ (some y) - oJ (some z) = nI (y - z) := pk_sub h3
      simp only [q152_87, q152_89, q152_90, q152_93, q152_94, q152_95, q152_162, q152_163, q152_164, q152_165, ix0, e0, c1, e5, Option.getD_some, zCall_some, Option.toList, List.cons_append, List.nil_append, zb_0, zb_1, zem, z01, z11, nI_add, ↓reduceIte, not_true_eq_false, not_false_eq_true, n0T, n1F, n11T, true_or, or_true, false_or]
  | succ m ih =>
    intro g hg
    have hgn : g < σ 0 := by omega
    have c1 : ¬ nI (σ 0) ≤ nI g := nI_ge hgn (by omega)
    have ix : zIx 21 103 (nI g) := ix103 (by omega)
    have hW := m_isAwayR (sc := sc) (d := d) (f := f) (j := j) hR (show g < 8 by omega) (hV.2.2.1 g hgn).2.2
    rw [← ih (g + 1) (by omega), q152_87, mxO_s, mnO_s]
    by_cases haw : σ (32 + g) = 1
    · have hp : ¬ prB σ g = true := by unfold prB; simp [haw]
      rw [if_neg hp, if_neg hp]
      simp only [q152_0, q152_1, q152_2, q152_3, q152_5, q152_8, q152_9, q152_12, q152_13, q152_14, q152_15, q152_18, q152_21, q152_22, q152_23, q152_24, q152_25, q152_28, q152_29, q152_30, q152_33, q152_34, q152_35, q152_36, q152_37, q152_38, q152_41, q152_42, q152_43, q152_44, q152_45, q152_48, q152_49, q152_50, q152_53, q152_54, q152_57, q152_58, q152_59, q152_60, q152_61, q152_64, q152_65, q152_66, q152_67, q152_68, q152_71, q152_74, q152_77, q152_80, q152_81, q152_82, q152_83, q152_84, q152_85, q152_89, q152_90, q152_93, q152_94, q152_95, q152_98, q152_99, q152_101, q152_104, q152_107, q152_110, q152_111, q152_114, q152_115, q152_118, q152_120, q152_121, q152_122, q152_125, q152_126, q152_129, q152_131, q152_132, q152_133, q152_134, q152_137, q152_138, q152_141, q152_143, q152_144, q152_145, q152_148, q152_149, q152_152, q152_154, q152_155, q152_156, q152_159, q152_163, q152_164, q152_165, ix0, e0, c1, hW, eq_true haw, zCall_some, Option.toList, List.cons_append, List.nil_append, zb_0, zb_1, zem, z01, z11, nI_add, ↓reduceIte, not_true_eq_false, not_false_eq_true, n0T, n1F, n11T, true_or, or_true, false_or]
    · have hp : prB σ g = true := by unfold prB; simp [haw, hgn]
      rw [if_pos hp, if_pos hp]
      rcases mn_mx (P := prB σ) (x := x) g with ⟨h1, h2⟩ | ⟨y, z, h1, h2, h3⟩
      · rw [h1, h2]
        have k1 : (-1 : Int32) < 0 := by decide
        dsimp only
        simp only [q152_0, q152_1, q152_2, q152_3, q152_5, q152_8, q152_9, q152_12, q152_13, q152_14, q152_15, q152_18, q152_21, q152_22, q152_23, q152_24, q152_25, q152_28, q152_29, q152_30, q152_33, q152_34, q152_35, q152_36, q152_37, q152_38, q152_41, q152_42, q152_43, q152_44, q152_45, q152_48, q152_49, q152_50, q152_53, q152_54, q152_57, q152_58, q152_59, q152_60, q152_61, q152_64, q152_65, q152_66, q152_67, q152_68, q152_71, q152_74, q152_77, q152_80, q152_81, q152_82, q152_83, q152_84, q152_85, q152_89, q152_90, q152_93, q152_94, q152_95, q152_98, q152_99, q152_101, q152_104, q152_107, q152_110, q152_111, q152_114, q152_115, q152_118, q152_120, q152_121, q152_122, q152_125, q152_126, q152_129, q152_131, q152_132, q152_133, q152_134, q152_137, q152_138, q152_141, q152_143, q152_144, q152_145, q152_148, q152_149, q152_152, q152_154, q152_155, q152_156, q152_159, q152_163, q152_164, q152_165, ix0, e0, c1, hW, eq_false haw, ix, hA g hgn, oJ_n, oJ_s, k1, zCall_some, Option.toList, List.cons_append, List.nil_append, zb_0, zb_1, zem, z01, z11, nI_add, ↓reduceIte, not_true_eq_false, not_false_eq_true, n0T, n1F, n11T, true_or, or_true, false_or]
      · rw [h1, h2]
        have hy := mxO_le (P := prB σ) (x := x) g (fun q hq => hx q (by omega)) y h1
        have hxg := hx g hgn
        have k1 : ¬ nI y < 0 := nI_pos (by omega)
        have k2 : ¬ nI z < 0 := nI_pos (by omega)
        dsimp only
        by_cases q1 : y < x g
        · have x1 : ¬ nI (x g) ≤ nI y := nI_ge q1 (by omega)
          rw [if_pos q1]
          by_cases q2 : x g < z
          · have x2 : ¬ nI z ≤ nI (x g) := nI_ge q2 (by omega)
            rw [if_pos q2]
            simp only [q152_0, q152_1, q152_2, q152_3, q152_5, q152_8, q152_9, q152_12, q152_13, q152_14, q152_15, q152_18, q152_21, q152_22, q152_23, q152_24, q152_25, q152_28, q152_29, q152_30, q152_33, q152_34, q152_35, q152_36, q152_37, q152_38, q152_41, q152_42, q152_43, q152_44, q152_45, q152_48, q152_49, q152_50, q152_53, q152_54, q152_57, q152_58, q152_59, q152_60, q152_61, q152_64, q152_65, q152_66, q152_67, q152_68, q152_71, q152_74, q152_77, q152_80, q152_81, q152_82, q152_83, q152_84, q152_85, q152_89, q152_90, q152_93, q152_94, q152_95, q152_98, q152_99, q152_101, q152_104, q152_107, q152_110, q152_111, q152_114, q152_115, q152_118, q152_120, q152_121, q152_122, q152_125, q152_126, q152_129, q152_131, q152_132, q152_133, q152_134, q152_137, q152_138, q152_141, q152_143, q152_144, q152_145, q152_148, q152_149, q152_152, q152_154, q152_155, q152_156, q152_159, q152_163, q152_164, q152_165, ix0, e0, c1, hW, eq_false haw, ix, hA g hgn, oJ_s, k1, k2, x1, x2, zCall_some, Option.toList, List.cons_append, List.nil_append, zb_0, zb_1, zem, z01, z11, nI_add, ↓reduceIte, not_true_eq_false, not_false_eq_true, n0T, n1F, n11T, true_or, or_true, false_or]
          · have x2 : nI z ≤ nI (x g) := nI_le (by omega) (by omega)
            rw [if_neg q2]
            simp only [q152_0, q152_1, q152_2, q152_3, q152_5, q152_8, q152_9, q152_12, q152_13, q152_14, q152_15, q152_18, q152_21, q152_22, q152_23, q152_24, q152_25, q152_28, q152_29, q152_30, q152_33, q152_34, q152_35, q152_36, q152_37, q152_38, q152_41, q152_42, q152_43, q152_44, q152_45, q152_48, q152_49, q152_50, q152_53, q152_54, q152_57, q152_58, q152_59, q152_60, q152_61, q152_64, q152_65, q152_66, q152_67, q152_68, q152_71, q152_74, q152_77, q152_80, q152_81, q152_82, q152_83, q152_84, q152_85, q152_89, q152_90, q152_93, q152_94, q152_95, q152_98, q152_99, q152_101, q152_104, q152_107, q152_110, q152_111, q152_114, q152_115, q152_118, q152_120, q152_121, q152_122, q152_125, q152_126, q152_129, q152_131, q152_132, q152_133, q152_134, q152_137, q152_138, q152_141, q152_143, q152_144, q152_145, q152_148, q152_149, q152_152, q152_154, q152_155, q152_156, q152_159, q152_163, q152_164, q152_165, ix0, e0, c1, hW, eq_false haw, ix, hA g hgn, oJ_s, k1, k2, x1, x2, zCall_some, Option.toList, List.cons_append, List.nil_append, zb_0, zb_1, zem, z01, z11, nI_add, ↓reduceIte, not_true_eq_false, not_false_eq_true, n0T, n1F, n11T, true_or, or_true, false_or]
        · have x1 : nI (x g) ≤ nI y := nI_le (by omega) (by omega)
          rw [if_neg q1]
          by_cases q2 : x g < z
          · have x2 : ¬ nI z ≤ nI (x g) := nI_ge q2 (by omega)
            rw [if_pos q2]
            simp only [q152_0, q152_1, q152_2, q152_3, q152_5, q152_8, q152_9, q152_12, q152_13, q152_14, q152_15, q152_18, q152_21, q152_22, q152_23, q152_24, q152_25, q152_28, q152_29, q152_30, q152_33, q152_34, q152_35, q152_36, q152_37, q152_38, q152_41, q152_42, q152_43, q152_44, q152_45, q152_48, q152_49, q152_50, q152_53, q152_54, q152_57, q152_58, q152_59, q152_60, q152_61, q152_64, q152_65, q152_66, q152_67, q152_68, q152_71, q152_74, q152_77, q152_80, q152_81, q152_82, q152_83, q152_84, q152_85, q152_89, q152_90, q152_93, q152_94, q152_95, q152_98, q152_99, q152_101, q152_104, q152_107, q152_110, q152_111, q152_114, q152_115, q152_118, q152_120, q152_121, q152_122, q152_125, q152_126, q152_129, q152_131, q152_132, q152_133, q152_134, q152_137, q152_138, q152_141, q152_143, q152_144, q152_145, q152_148, q152_149, q152_152, q152_154, q152_155, q152_156, q152_159, q152_163, q152_164, q152_165, ix0, e0, c1, hW, eq_false haw, ix, hA g hgn, oJ_s, k1, k2, x1, x2, zCall_some, Option.toList, List.cons_append, List.nil_append, zb_0, zb_1, zem, z01, z11, nI_add, ↓reduceIte, not_true_eq_false, not_false_eq_true, n0T, n1F, n11T, true_or, or_true, false_or]
          · have x2 : nI z ≤ nI (x g) := nI_le (by omega) (by omega)
            rw [if_neg q2]
            simp only [q152_0, q152_1, q152_2, q152_3, q152_5, q152_8, q152_9, q152_12, q152_13, q152_14, q152_15, q152_18, q152_21, q152_22, q152_23, q152_24, q152_25, q152_28, q152_29, q152_30, q152_33, q152_34, q152_35, q152_36, q152_37, q152_38, q152_41, q152_42, q152_43, q152_44, q152_45, q152_48, q152_49, q152_50, q152_53, q152_54, q152_57, q152_58, q152_59, q152_60, q152_61, q152_64, q152_65, q152_66, q152_67, q152_68, q152_71, q152_74, q152_77, q152_80, q152_81, q152_82, q152_83, q152_84, q152_85, q152_89, q152_90, q152_93, q152_94, q152_95, q152_98, q152_99, q152_101, q152_104, q152_107, q152_110, q152_111, q152_114, q152_115, q152_118, q152_120, q152_121, q152_122, q152_125, q152_126, q152_129, q152_131, q152_132, q152_133, q152_134, q152_137, q152_138, q152_141, q152_143, q152_144, q152_145, q152_148, q152_149, q152_152, q152_154, q152_155, q152_156, q152_159, q152_163, q152_164, q152_165, ix0, e0, c1, hW, eq_false haw, ix, hA g hgn, oJ_s, k1, k2, x1, x2, zCall_some, Option.toList, List.cons_append, List.nil_append, zb_0, zb_1, zem, z01, z11, nI_add, ↓reduceIte, not_true_eq_false, not_false_eq_true, n0T, n1F, n11T, true_or, or_true, false_or]
/-- cells that such questions may change -/
def MG (f f' : zF) (a a' : zA) : Prop := (∀ k, k ≠ 85 → f' k = f k) ∧ (∀ i, i ≠ 12 → i ≠ 13 → i ≠ 14 → f' 85 i = f 85 i) ∧ ∀ k, (k < 89 ∨ (97 < k ∧ k < 103) ∨ 103 < k) → a' k = a k
theorem MG.rf {f : zF} {a : zA} : MG f f a a := ⟨fun _ _ => rfl, fun _ _ _ _ => rfl, fun _ _ => rfl⟩
theorem MG.tr {f f1 f2 : zF} {a a1 a2 : zA} (h : MG f f1 a a1) (g : MG f1 f2 a1 a2) : MG f f2 a a2 := ⟨fun k hk => (g.1 k hk).trans (h.1 k hk), fun i h1 h2 h3 => (g.2.1 i h1 h2 h3).trans (h.2.1 i h1 h2 h3), fun k hk => (g.2.2 k hk).trans (h.2.2 k hk)⟩
theorem MF.g {f f' : zF} {a a' : zA} (h : MF f f' a a') : MG f f' a a' := ⟨h.1, h.2.1, fun k hk => h.2.2 k (by omega)⟩
theorem MG.w {f f' : zF} {a a' : zA} (h : MG f f' a a') : MFW f f' a a' := ⟨h.1, h.2.1, fun k hk => h.2.2 k (by omega)⟩
theorem MG.r {σ : Nat → Nat} {f f' : zF} {a a' : zA} (h : MG f f' a a') (hR : MR σ a) : MR σ a' := hR.of (h.2.2 86 (by omega))
theorem m_unevenOf {sc : Int32 × (Int32 → Int32)} {f : zF} {a : zA} {j : zJ} {d m : Nat} {σ : Nat → Nat} (hR : MR σ a) (hV : VR σ) (hw : σ 3 ≤ 999) (hr : σ 2 ≤ 3) (hm : m ≤ 12) : ∃ (f' : zF) (a' : zA), cf sc (d + 6) 152 [.ref 85, .int (nI m)] f a j = some (some (.int (nI (unO σ m))), f', a', j) ∧ MG f f' a a' := by
  have hn := hV.1
  have ix3 : zIx 21 86 (nI 3) := ix86 (by omega)
  obtain ⟨a1, b1, b2, b3⟩ := vu_1 (sc := sc) (F := cf sc (d + 5)) (f := f) (a := a) (j := j) (v1 := .int (nI m)) (v3 := .null) (v4 := .null)
  have hM1 : MG f f a a1 := ⟨fun _ _ => rfl, fun _ _ _ _ => rfl, fun k hk => b3 k (by omega)⟩
  have key := zLoopP (n := m) (g := fun s : (Nat × zF × zA × Value) => rn sc (cf sc (d + 5)) 152 23 [.ref 85, .int (nI m), .int (nI s.1), s.2.2.2, .null] [] s.2.1 s.2.2.1 j) (P := fun i s => s.1 = i ∧ MG f s.2.1 a s.2.2.1 ∧ ∀ q, q < σ 0 → s.2.2.1 103 (nI q) = nI (unF σ q i)) (by
    intro i s hi hP
    obtain ⟨i', f1, a2, v3⟩ := s
    obtain ⟨rfl, hM, hA⟩ := hP
    dsimp only at hM hi hA
    have hR2 := hM.r hR
    have e3 := hR2 3 (by omega)
    have c1 : ¬ nI m ≤ nI i' := nI_ge hi (by omega)
    obtain ⟨f2, a3, t1, t2, t3⟩ := m_tellsF (sc := sc) (d := d) (f := f1) (j := j) (w := σ 3 + i') hR2 hV (by omega) hr
    obtain ⟨a4, s1, s2, s3⟩ := vu_2 (sc := sc) (F := cf sc (d + 5)) (f := f2) (j := j) (σ := σ) (x := fun q => unF σ q i') (y := ngF σ (σ 3 + i') false) (v1 := .int (nI m)) (v2 := .int (nI i')) (v4 := .null) hn (σ 0) 0 a3 (by omega) (t3.r hR2) (fun q hq => (t2.2.2 q hq).2) (fun q hq => by rw [if_neg (by omega), t3.2.2 103 (by omega)]; exact hA q hq)
    refine ⟨(i' + 1, f2, a4, .int (nI (σ 0))), ⟨rfl, hM.tr (t3.g.tr ⟨fun _ _ => rfl, fun _ _ _ _ => rfl, fun k hk => s3 k (by omega)⟩), s2⟩, ?_⟩
    dsimp only
    rw [q152_23]
    simp only [q152_0, q152_1, q152_2, q152_3, q152_5, q152_8, q152_9, q152_12, q152_13, q152_14, q152_15, q152_18, q152_21, q152_22, q152_24, q152_25, q152_28, q152_29, q152_30, q152_33, q152_34, q152_35, q152_36, q152_37, q152_38, q152_41, q152_42, q152_44, q152_45, q152_48, q152_49, q152_50, q152_53, q152_54, q152_57, q152_58, q152_59, q152_60, q152_61, q152_64, q152_65, q152_66, q152_67, q152_68, q152_71, q152_77, q152_80, q152_81, q152_82, q152_83, q152_84, q152_85, q152_87, q152_89, q152_90, q152_93, q152_94, q152_95, q152_98, q152_99, q152_101, q152_104, q152_107, q152_110, q152_111, q152_114, q152_115, q152_118, q152_120, q152_121, q152_122, q152_125, q152_126, q152_129, q152_131, q152_132, q152_133, q152_134, q152_137, q152_138, q152_141, q152_143, q152_144, q152_145, q152_148, q152_149, q152_152, q152_154, q152_155, q152_156, q152_159, q152_162, q152_163, q152_164, q152_165, ix3, e3, c1, t1, zCall_some, Option.toList, List.cons_append, List.nil_append, zb_0, zb_1, zem, z01, z11, nI_add, ↓reduceIte, not_true_eq_false, not_false_eq_true, n0T, n1F, n11T, true_or, or_true, false_or]
    rw [s1]
    simp only [q152_0, q152_1, q152_2, q152_3, q152_5, q152_8, q152_9, q152_12, q152_13, q152_14, q152_15, q152_18, q152_21, q152_22, q152_24, q152_25, q152_28, q152_29, q152_30, q152_33, q152_34, q152_35, q152_36, q152_37, q152_38, q152_41, q152_42, q152_44, q152_45, q152_48, q152_49, q152_50, q152_53, q152_54, q152_57, q152_58, q152_59, q152_60, q152_61, q152_64, q152_65, q152_66, q152_67, q152_68, q152_71, q152_74, q152_77, q152_80, q152_81, q152_82, q152_83, q152_84, q152_85, q152_87, q152_89, q152_90, q152_93, q152_94, q152_95, q152_98, q152_99, q152_101, q152_104, q152_107, q152_110, q152_111, q152_114, q152_115, q152_118, q152_120, q152_121, q152_122, q152_125, q152_126, q152_129, q152_131, q152_132, q152_133, q152_134, q152_137, q152_138, q152_141, q152_143, q152_144, q152_145, q152_148, q152_149, q152_152, q152_154, q152_155, q152_156, q152_159, q152_162, q152_163, q152_164, q152_165, zCall_some, Option.toList, List.cons_append, List.nil_append, zb_0, zb_1, zem, z01, z11, nI_add, ↓reduceIte, not_true_eq_false, not_false_eq_true, n0T, n1F, n11T, true_or, or_true, false_or]) (0, f, a1, .null) ⟨rfl, hM1, fun q hq => b2 q (by omega)⟩
  obtain ⟨⟨i, f1, a2, v3⟩, ⟨hi, hM, hA⟩, e⟩ := key
  dsimp only at hM hA hi e
  rw [hi] at e
  refine ⟨f1, a2, ?_, hM⟩
  have hR2 := hM.r hR
  have c1 : nI m ≤ nI m := nI_le (Nat.le_refl _) (by omega)
  have h3 := vu_3 (sc := sc) (d := d + 4) (f := f1) (a := a2) (j := j) (σ := σ) (x := fun g => unF σ g m) (v1 := .int (nI m)) hR2 hV (fun g hg => by have := un_le hV hg m; omega) hA (σ 0) 0 (by omega)
  rw [en152, q152_0, q152_1]
  refine Eq.trans (show _ = _ from b1) ?_
  simp only [q152_21, q152_22, zCall_some, Option.toList, List.cons_append, List.nil_append, zb_0, zb_1, zem, z01, z11, nI_add, ↓reduceIte, not_true_eq_false, not_false_eq_true, n0T, n1F, n11T, true_or, or_true, false_or]
  refine Eq.trans (show _ = _ from e) ?_
  simp only [q152_23, q152_24, q152_25, q152_80, q152_81, q152_82, q152_83, q152_84, q152_85, c1, zCall_some, Option.toList, List.cons_append, List.nil_append, zb_0, zb_1, zem, z01, z11, nI_add, ↓reduceIte, not_true_eq_false, not_false_eq_true, n0T, n1F, n11T, true_or, or_true, false_or]
  exact h3
theorem y_uneven {sc : Int32 × (Int32 → Int32)} {f : zF} {a : zA} {j : zJ} {d : Nat} {σ : Nat → Nat} {n : Int32} (hR : MR σ a) (hV : VS σ) : ∃ (f' : zF) (a' : zA), cf sc (d + 7) 153 [.ref 85, .int n] f a j = some (some (.int (sUneven σ n)), f', a', j) ∧ MG f f' a a' := by
  rw [en153]
  unfold sUneven
  by_cases hm : zBtw n 1 12
  · rw [if_pos hm]
    obtain ⟨m, m1, m2, rfl⟩ := zBtw_of (by omega) (by omega) hm
    rw [nI_clamp (n := m) (by omega)]
    obtain ⟨f1, a1, t1, t2⟩ := m_unevenOf (sc := sc) (d := d) (f := f) (j := j) hR hV.1.1 hV.1.2.2.2.2 hV.1.2.2.2.1 m2
    refine ⟨f1, a1, ?_, t2⟩
    simp only [q153_0, q153_1, q153_2, q153_3, q153_6, q153_9, q153_12, q153_13, q153_14, q153_17, q153_20, q153_22, in112, eq_true hm, t1, zCall_some, Option.toList, List.cons_append, List.nil_append, zb_0, zb_1, zem, z01, z11, nI_add, ↓reduceIte, not_true_eq_false, not_false_eq_true, n0T, n1F, n11T, true_or, or_true, false_or]
  · rw [if_neg hm]
    refine ⟨f, a, ?_, MG.rf⟩
    simp only [q153_0, q153_1, q153_2, q153_3, q153_6, q153_9, q153_12, q153_13, q153_14, q153_17, q153_20, q153_22, in112, eq_false hm, zCall_some, Option.toList, List.cons_append, List.nil_append, zb_0, zb_1, zem, z01, z11, nI_add, ↓reduceIte, not_true_eq_false, not_false_eq_true, n0T, n1F, n11T, true_or, or_true, false_or]
theorem MR.re {σ : Nat → Nat} {a : zA} {p x y : Nat} (h : MR (zup σ p x) a) (hp : p < 140) : MR (zup σ p y) (zuA a 86 (nI p) (nI y)) := (h.set (x := y) hp).ext (fun i _ => by
  by_cases e : i = p
  · rw [e, zup_eq, zup_eq]
  · rw [zup_ne e, zup_ne e, zup_ne e])
theorem MFW.s86 {f : zF} {a : zA} {i x : Int32} : MFW f f a (zuA a 86 i x) := MFW.a (fun k hk => zuA_nk (by omega))
theorem y_evenest {sc : Int32 × (Int32 → Int32)} {f : zF} {a : zA} {j : zJ} {d : Nat} {σ : Nat → Nat} {n : Int32} (hR : MR σ a) (hV : VS σ) : ∃ (f' : zF) (a' : zA), cf sc (d + 7) 154 [.ref 85, .int n] f a j = some (some (.int (sEvenest σ n)), f', a', j) ∧ MR σ a' ∧ MFW f f' a a' := by
  have hVR := hV.1.1
  have hw := hV.1.2.2.2.2
  rw [en154]
  unfold sEvenest
  by_cases hm : zBtw n 1 12
  · rw [if_pos hm]
    obtain ⟨m, m1, m2, rfl⟩ := zBtw_of (by omega) (by omega) hm
    rw [nI_clamp (n := m) (by omega)]
    have hVu : ∀ r, VR (zup σ 2 r) := fun r => hVR.up (fun i _ q _ => zup_ne q) (by rw [zup_ne (by omega)]; exact hVR.2.1)
    have hu : ∀ r, unO (zup σ 2 r) m ≤ 2000 := fun r => ng_le97 (hVu r) m2
    have ix2 : zIx 21 86 (nI 2) := ix86 (by omega)
    have e2 := hR 2 (by omega)
    have hRr : ∀ x r (a : zA), MR (zup σ 2 x) a → MR (zup σ 2 r) (zuA a 86 (nI 2) (nI r)) := fun x r a h => h.re (by omega)
    have hun : ∀ (x r : Nat) (f : zF) (a : zA), r ≤ 3 → MR (zup σ 2 x) a → ∃ (f' : zF) (a' : zA), cf sc (d + 6) 152 [.ref 85, .int (nI m)] f (zuA a 86 (nI 2) (nI r)) j = some (some (.int (nI (unO (zup σ 2 r) m))), f', a', j) ∧ MR (zup σ 2 r) a' ∧ MFW f f' a a' := by
      intro x r f a hr h
      obtain ⟨f1, a1, t1, t2⟩ := m_unevenOf (sc := sc) (d := d) (f := f) (j := j) (hRr x r a h) (hVu r) (by rw [zup_ne (by omega)]; exact hw) (by rw [zup_eq]; exact hr) m2
      exact ⟨f1, a1, t1, t2.r (hRr x r a h), MFW.s86.tr t2.w⟩
    obtain ⟨f0, a0, t0, r0, w0⟩ := hun (σ 2) 0 f a (by omega) (hR.ext (fun i _ => by rw [zup_self]))
    have key := zLoopP (n := 3) (g := fun s : (Nat × zF × zA × Value) => rn sc (cf sc (d + 6)) 154 30 [.ref 85, .int (nI m), .int (nI (σ 2)), .int (nI (evF (fun r => unO (zup σ 2 r) m) s.1)), .int (nI (unO (zup σ 2 (evF (fun r => unO (zup σ 2 r) m) s.1)) m)), .int (nI (s.1 + 1)), s.2.2.2] [] s.2.1 s.2.2.1 j) (P := fun i s => s.1 = i ∧ MFW f s.2.1 a s.2.2.1 ∧ ∃ x, MR (zup σ 2 x) s.2.2.1) (by
      intro i s hi hP
      obtain ⟨i', f1, a1, v6⟩ := s
      obtain ⟨rfl, hM, x, hx⟩ := hP
      dsimp only at hM hi hx
      obtain ⟨f2, a2, t1, t2, t3⟩ := hun x (i' + 1) f1 a1 (by omega) hx
      refine ⟨(i' + 1, f2, a2, .int (nI (unO (zup σ 2 (i' + 1)) m))), ⟨rfl, hM.tr t3, _, t2⟩, ?_⟩
      have c1 : ¬ nI 4 ≤ nI (i' + 1) := nI_ge (by omega) (by omega)
      have es : evF (fun r => unO (zup σ 2 r) m) (i' + 1) = if unO (zup σ 2 (i' + 1)) m < unO (zup σ 2 (evF (fun r => unO (zup σ 2 r) m) i')) m then i' + 1 else evF (fun r => unO (zup σ 2 r) m) i' := rfl
      have h1 := hu (i' + 1)
      have h2 := hu (evF (fun r => unO (zup σ 2 r) m) i')
      have c0 : ¬ nI (unO (zup σ 2 (evF (fun r => unO (zup σ 2 r) m) i')) m) < 0 := nI_pos (by omega)
      dsimp only
      rw [q154_30, es]
      by_cases hc : unO (zup σ 2 (i' + 1)) m < unO (zup σ 2 (evF (fun r => unO (zup σ 2 r) m) i')) m
      · have c2 : nI (unO (zup σ 2 (i' + 1)) m) < nI (unO (zup σ 2 (evF (fun r => unO (zup σ 2 r) m) i')) m) := nI_lt hc (by omega)
        rw [if_pos hc]
        simp only [q154_0, q154_1, q154_2, q154_3, q154_6, q154_9, q154_12, q154_14, q154_15, q154_16, q154_19, q154_20, q154_21, q154_22, q154_23, q154_24, q154_25, q154_27, q154_28, q154_32, q154_33, q154_36, q154_37, q154_40, q154_41, q154_43, q154_44, q154_45, q154_46, q154_49, q154_51, q154_53, q154_56, q154_58, q154_60, q154_63, q154_66, q154_68, q154_69, q154_71, q154_73, q154_76, q154_79, q154_80, q154_83, q154_84, q154_85, q154_86, q154_87, c1, ix2, t1, c0, c2, zCall_some, Option.toList, List.cons_append, List.nil_append, zb_0, zb_1, zem, z01, z11, nI_add, ↓reduceIte, not_true_eq_false, not_false_eq_true, n0T, n1F, n11T, true_or, or_true, false_or]
      · have c2 : ¬ nI (unO (zup σ 2 (i' + 1)) m) < nI (unO (zup σ 2 (evF (fun r => unO (zup σ 2 r) m) i')) m) := nI_nlt (by omega) (by omega)
        rw [if_neg hc]
        simp only [q154_0, q154_1, q154_2, q154_3, q154_6, q154_9, q154_12, q154_14, q154_15, q154_16, q154_19, q154_20, q154_21, q154_22, q154_23, q154_24, q154_25, q154_27, q154_28, q154_32, q154_33, q154_36, q154_37, q154_40, q154_41, q154_43, q154_44, q154_45, q154_46, q154_49, q154_51, q154_53, q154_56, q154_58, q154_60, q154_63, q154_66, q154_68, q154_69, q154_71, q154_73, q154_76, q154_79, q154_80, q154_83, q154_84, q154_85, q154_86, q154_87, c1, ix2, t1, c0, c2, zCall_some, Option.toList, List.cons_append, List.nil_append, zb_0, zb_1, zem, z01, z11, nI_add, ↓reduceIte, not_true_eq_false, not_false_eq_true, n0T, n1F, n11T, true_or, or_true, false_or]) (0, f0, a0, .int (nI (unO (zup σ 2 0) m))) ⟨rfl, w0, 0, r0⟩
    obtain ⟨⟨i, f1, a1, v6⟩, ⟨hi, hM, x, hx⟩, e⟩ := key
    dsimp only at hM hx hi e
    rw [hi] at e
    refine ⟨f1, zuA a1 86 (nI 2) (nI (σ 2)), ?_, hx.back (by omega), hM.tr MFW.s86⟩
    have c1 : nI 4 ≤ nI (3 + 1) := nI_le (by omega) (by omega)
    have c2 : ¬ nI 4 ≤ nI 0 := nI_ge (by omega) (by omega)
    have c3 : (-1 : Int32) < 0 := by decide
    simp only [q154_0, q154_1, q154_2, q154_3, q154_6, q154_9, q154_15, q154_16, q154_19, q154_20, q154_21, q154_22, q154_23, q154_24, q154_25, q154_27, q154_28, in112, eq_true hm, ix2, e2, zCall_some, Option.toList, List.cons_append, List.nil_append, zb_0, zb_1, zem, z01, z11, nI_add, ↓reduceIte, not_true_eq_false, not_false_eq_true, n0T, n1F, n11T, true_or, or_true, false_or]
    rw [q154_30]
    simp only [q154_0, q154_1, q154_2, q154_3, q154_6, q154_9, q154_12, q154_14, q154_15, q154_16, q154_19, q154_20, q154_21, q154_22, q154_23, q154_24, q154_25, q154_27, q154_28, q154_32, q154_33, q154_36, q154_37, q154_40, q154_41, q154_43, q154_44, q154_45, q154_46, q154_49, q154_51, q154_53, q154_56, q154_58, q154_60, q154_63, q154_66, q154_68, q154_69, q154_71, q154_73, q154_76, q154_79, q154_80, q154_83, q154_84, q154_85, q154_86, q154_87, ix2, c2, t0, c3, zCall_some, Option.toList, List.cons_append, List.nil_append, zb_0, zb_1, zem, z01, z11, nI_add, ↓reduceIte, not_true_eq_false, not_false_eq_true, n0T, n1F, n11T, true_or, or_true, false_or]
    refine Eq.trans (show _ = _ from e) ?_
    simp only [q154_30, q154_32, q154_33, q154_79, q154_80, q154_83, q154_84, q154_85, q154_86, q154_87, c1, ix2, zCall_some, Option.toList, List.cons_append, List.nil_append, zb_0, zb_1, zem, z01, z11, nI_add, ↓reduceIte, not_true_eq_false, not_false_eq_true, n0T, n1F, n11T, true_or, or_true, false_or]
  · rw [if_neg hm]
    refine ⟨f, a, ?_, hR, MFW.rf⟩
    simp only [q154_0, q154_1, q154_2, q154_3, q154_6, q154_9, q154_12, q154_14, q154_15, q154_16, q154_19, q154_20, q154_21, q154_22, q154_23, q154_24, q154_25, q154_27, q154_28, q154_32, q154_33, q154_36, q154_37, q154_40, q154_41, q154_43, q154_44, q154_45, q154_46, q154_49, q154_51, q154_53, q154_56, q154_58, q154_60, q154_63, q154_66, q154_68, q154_69, q154_71, q154_73, q154_76, q154_79, q154_80, q154_83, q154_84, q154_85, q154_86, q154_87, in112, eq_false hm, zCall_some, Option.toList, List.cons_append, List.nil_append, zb_0, zb_1, zem, z01, z11, nI_add, ↓reduceIte, not_true_eq_false, not_false_eq_true, n0T, n1F, n11T, true_or, or_true, false_or]
