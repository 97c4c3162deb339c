/-! ===== the reference: over, uneven, evenest, fits, odds, mean ===== -/
theorem MF.rf {f : zF} {a : zA} : MF f f a a := ⟨fun _ _ => rfl, fun _ _ _ _ => rfl, fun _ _ => rfl⟩
theorem MF.tr {f f1 f2 : zF} {a a1 a2 : zA} (h : MF f f1 a a1) (g : MF f1 f2 a1 a2) : MF f f2 a a2 := ⟨fun k hk => (g.1 k hk).trans (h.1 k hk), fun i h1 h2 h3 => (g.2.1 i h1 h2 h3).trans (h.2.1 i h1 h2 h3), fun k hk => (g.2.2 k hk).trans (h.2.2 k hk)⟩
theorem ovF_s (σ : Nat → Nat) (g : Nat) (b : Bool) (i : Nat) : ovF σ g b (i + 1) = ovF σ g b i + (if b = true then hvOf σ (σ 3 + i) (decide (i = 0)) g else ngF σ (σ 3 + i) (decide (i = 0)) g) := rfl
theorem y_over {sc : Int32 × (Int32 → Int32)} {f : zF} {a : zA} {j : zJ} {d : Nat} {σ : Nat → Nat} {v n what : Int32} (hR : MR σ a) (hV : VS σ) : ∃ (f' : zF) (a' : zA), cf sc (d + 6) 157 [.ref 85, .int v, .int n, .int what] f a j = some (some (.int (sOver σ v n what)), f', a', j) ∧ MF f f' a a' := by
  have hVR := hV.1.1
  have hn := hVR.1
  have h9 := hV.1.2.2.2.2
  have hr := hV.1.2.2.2.1
  have hF := m_isField (sc := sc) (d := d + 3) (f := f) (j := j) (v := v) hR hn
  have ix3 : zIx 21 86 (nI 3) := ix86 (by omega)
  rw [en157]
  unfold sOver
  by_cases hv : zHas v (σ 0)
  · by_cases hb : zBtw what 0 1
    · rw [if_pos ⟨hv, hb⟩]
      by_cases hm : zBtw n 1 12
      · rw [if_pos hm]
        obtain ⟨g, hg, rfl⟩ := zHas_of (by omega) hv
        obtain ⟨m, m1, m2, rfl⟩ := zBtw_of (by omega) (by omega) hm
        rw [nI_clamp (n := g) (by omega), nI_clamp (n := m) (by omega)]
        have i93 : zIx 21 93 (nI g) := ix93 (by omega)
        have i95 : zIx 21 95 (nI g) := ix95 (by omega)
        have key := zLoopP (n := m) (g := fun s : (Nat × zF × zA) => rn sc (cf sc (d + 5)) 157 41 [.ref 85, .int (nI g), .int (nI m), .int what, .int (nI (ovF σ g (decide (what = nI 0)) s.1)), .int (nI s.1)] [] s.2.1 s.2.2 j) (P := fun i s => s.1 = i ∧ MF f s.2.1 a s.2.2) (by
          intro i s hi hP
          obtain ⟨i', f1, a1⟩ := s
          obtain ⟨rfl, hM⟩ := hP
          dsimp only at hM hi
          have hR1 := hM.r hR
          have e3 := hR1 3 (by omega)
          have c1 : ¬ nI m ≤ nI i' := nI_ge hi (by omega)
          obtain ⟨f2, a2, t1, t2, t3⟩ := m_tells (sc := sc) (d := d) (f := f1) (j := j) (w := σ 3 + i') (tr := decide (i' = 0)) hR1 hVR (by omega) hr (fun q => by
            have q := of_decide_eq_true q
            rw [q]
            exact hV.2.1)
          refine ⟨(i' + 1, f2, a2), ⟨rfl, hM.tr t3⟩, ?_⟩
          have r93 := t2.2.1 g hg
          have r95 := (t2.2.2 g hg).2
          dsimp only
          rw [q157_41, ovF_s]
          by_cases z : i' = 0
          · rw [if_pos (decide_eq_true z)] at t1
            have z' : nI i' = 0 := by rw [z]; rfl
            by_cases h0 : what = nI 0
            · have h0' : what = 0 := h0
              rw [if_pos (decide_eq_true h0)]
              simp only [q157_0, q157_1, q157_2, q157_5, q157_8, q157_9, q157_10, q157_11, q157_12, q157_15, q157_18, q157_19, q157_20, q157_21, q157_22, q157_23, q157_26, q157_29, q157_32, q157_34, q157_35, q157_36, q157_38, q157_39, q157_43, q157_44, q157_47, q157_48, q157_49, q157_52, q157_53, q157_54, q157_56, q157_57, q157_59, q157_62, q157_63, q157_66, q157_67, q157_70, q157_72, q157_73, q157_76, q157_77, q157_80, q157_81, q157_82, q157_85, q157_86, q157_89, q157_90, q157_91, q157_92, q157_94, q157_97, q157_100, q157_102, ix3, e3, c1, eq_true z', t1, eq_true h0', i93, r93, zCall_some, Option.toList, List.cons_append, List.nil_append, zb_0, zb_1, zem, z01, z11, nI_add, ↓reduceIte, not_true_eq_false, not_false_eq_true, n0T, n1F, n11T, true_or, or_true, false_or]
            · have h0' : ¬ what = 0 := h0
              rw [if_neg (fun q => h0 (of_decide_eq_true q))]
              simp only [q157_0, q157_1, q157_2, q157_5, q157_8, q157_9, q157_10, q157_11, q157_12, q157_15, q157_18, q157_19, q157_20, q157_21, q157_22, q157_23, q157_26, q157_29, q157_32, q157_34, q157_35, q157_36, q157_38, q157_39, q157_43, q157_44, q157_47, q157_48, q157_49, q157_52, q157_53, q157_54, q157_56, q157_57, q157_59, q157_62, q157_63, q157_66, q157_67, q157_70, q157_72, q157_73, q157_76, q157_77, q157_80, q157_81, q157_82, q157_85, q157_86, q157_89, q157_90, q157_91, q157_92, q157_94, q157_97, q157_100, q157_102, ix3, e3, c1, eq_true z', t1, eq_false h0', i95, r95, zCall_some, Option.toList, List.cons_append, List.nil_append, zb_0, zb_1, zem, z01, z11, nI_add, ↓reduceIte, not_true_eq_false, not_false_eq_true, n0T, n1F, n11T, true_or, or_true, false_or]
          · rw [if_neg (fun q => z (of_decide_eq_true q))] at t1
            have z' : ¬ nI i' = 0 := nI_ne0 (by omega) (by omega)
            by_cases h0 : what = nI 0
            · have h0' : what = 0 := h0
              rw [if_pos (decide_eq_true h0)]
              simp only [q157_0, q157_1, q157_2, q157_5, q157_8, q157_9, q157_10, q157_11, q157_12, q157_15, q157_18, q157_19, q157_20, q157_21, q157_22, q157_23, q157_26, q157_29, q157_32, q157_34, q157_35, q157_36, q157_38, q157_39, q157_43, q157_44, q157_47, q157_48, q157_49, q157_52, q157_53, q157_54, q157_56, q157_57, q157_59, q157_62, q157_63, q157_66, q157_67, q157_70, q157_72, q157_73, q157_76, q157_77, q157_80, q157_81, q157_82, q157_85, q157_86, q157_89, q157_90, q157_91, q157_92, q157_94, q157_97, q157_100, q157_102, ix3, e3, c1, eq_false z', t1, eq_true h0', i93, r93, zCall_some, Option.toList, List.cons_append, List.nil_append, zb_0, zb_1, zem, z01, z11, nI_add, ↓reduceIte, not_true_eq_false, not_false_eq_true, n0T, n1F, n11T, true_or, or_true, false_or]
            · have h0' : ¬ what = 0 := h0
              rw [if_neg (fun q => h0 (of_decide_eq_true q))]
              simp only [q157_0, q157_1, q157_2, q157_5, q157_8, q157_9, q157_10, q157_11, q157_12, q157_15, q157_18, q157_19, q157_20, q157_21, q157_22, q157_23, q157_26, q157_29, q157_32, q157_34, q157_35, q157_36, q157_38, q157_39, q157_43, q157_44, q157_47, q157_48, q157_49, q157_52, q157_53, q157_54, q157_56, q157_57, q157_59, q157_62, q157_63, q157_66, q157_67, q157_70, q157_72, q157_73, q157_76, q157_77, q157_80, q157_81, q157_82, q157_85, q157_86, q157_89, q157_90, q157_91, q157_92, q157_94, q157_97, q157_100, q157_102, ix3, e3, c1, eq_false z', t1, eq_false h0', i95, r95, zCall_some, Option.toList, List.cons_append, List.nil_append, zb_0, zb_1, zem, z01, z11, nI_add, ↓reduceIte, not_true_eq_false, not_false_eq_true, n0T, n1F, n11T, true_or, or_true, false_or]) (0, f, a) ⟨rfl, MF.rf⟩
        obtain ⟨⟨i, f1, a1⟩, ⟨hi, hM⟩, e⟩ := key
        dsimp only at hM e hi
        rw [hi] at e
        refine ⟨f1, a1, ?_, hM⟩
        have c1 : nI m ≤ nI m := nI_le (Nat.le_refl _) (by omega)
        simp only [q157_0, q157_1, q157_2, q157_5, q157_8, q157_9, q157_10, q157_11, q157_12, q157_15, q157_18, q157_19, q157_20, q157_21, q157_22, q157_23, q157_26, q157_29, q157_32, q157_34, q157_35, q157_36, q157_38, q157_39, q157_43, q157_44, q157_47, q157_48, q157_49, q157_52, q157_53, q157_54, q157_56, q157_57, q157_59, q157_62, q157_63, q157_66, q157_67, q157_70, q157_72, q157_73, q157_76, q157_77, q157_80, q157_81, q157_82, q157_85, q157_86, q157_89, q157_90, q157_91, q157_92, q157_94, q157_97, q157_100, q157_102, hF, eq_true hv, in01, eq_true hb, in112, eq_true hm, zCall_some, Option.toList, List.cons_append, List.nil_append, zb_0, zb_1, zem, z01, z11, nI_add, ↓reduceIte, not_true_eq_false, not_false_eq_true, n0T, n1F, n11T, true_or, or_true, false_or]
        refine Eq.trans (show _ = _ from e) ?_
        simp only [q157_41, q157_43, q157_44, q157_100, q157_102, c1, zCall_some, Option.toList, List.cons_append, List.nil_append, zb_0, zb_1, zem, z01, z11, nI_add, ↓reduceIte, not_true_eq_false, not_false_eq_true, n0T, n1F, n11T, true_or, or_true, false_or]
      · rw [if_neg hm]
        refine ⟨f, a, ?_, MF.rf⟩
        simp only [q157_0, q157_1, q157_2, q157_5, q157_8, q157_9, q157_10, q157_11, q157_12, q157_15, q157_18, q157_19, q157_20, q157_21, q157_22, q157_23, q157_26, q157_29, q157_32, q157_34, q157_35, q157_36, q157_38, q157_39, q157_43, q157_44, q157_47, q157_48, q157_49, q157_52, q157_53, q157_54, q157_56, q157_57, q157_59, q157_62, q157_63, q157_66, q157_67, q157_70, q157_72, q157_73, q157_76, q157_77, q157_80, q157_81, q157_82, q157_85, q157_86, q157_89, q157_90, q157_91, q157_92, q157_94, q157_97, q157_100, q157_102, hF, eq_true hv, in01, eq_true hb, in112, eq_false hm, zCall_some, Option.toList, List.cons_append, List.nil_append, zb_0, zb_1, zem, z01, z11, nI_add, ↓reduceIte, not_true_eq_false, not_false_eq_true, n0T, n1F, n11T, true_or, or_true, false_or]
    · rw [if_neg (fun q => hb q.2)]
      refine ⟨f, a, ?_, MF.rf⟩
      simp only [q157_0, q157_1, q157_2, q157_5, q157_8, q157_9, q157_10, q157_11, q157_12, q157_15, q157_18, q157_19, q157_20, q157_21, q157_22, q157_23, q157_26, q157_29, q157_32, q157_34, q157_35, q157_36, q157_38, q157_39, q157_43, q157_44, q157_47, q157_48, q157_49, q157_52, q157_53, q157_54, q157_56, q157_57, q157_59, q157_62, q157_63, q157_66, q157_67, q157_70, q157_72, q157_73, q157_76, q157_77, q157_80, q157_81, q157_82, q157_85, q157_86, q157_89, q157_90, q157_91, q157_92, q157_94, q157_97, q157_100, q157_102, hF, eq_true hv, in01, eq_false hb, zCall_some, Option.toList, List.cons_append, List.nil_append, zb_0, zb_1, zem, z01, z11, nI_add, ↓reduceIte, not_true_eq_false, not_false_eq_true, n0T, n1F, n11T, true_or, or_true, false_or]
  · rw [if_neg (fun q => hv q.1)]
    refine ⟨f, a, ?_, MF.rf⟩
    simp only [q157_0, q157_1, q157_2, q157_5, q157_8, q157_9, q157_10, q157_11, q157_12, q157_15, q157_18, q157_19, q157_20, q157_21, q157_22, q157_23, q157_26, q157_29, q157_32, q157_34, q157_35, q157_36, q157_38, q157_39, q157_43, q157_44, q157_47, q157_48, q157_49, q157_52, q157_53, q157_54, q157_56, q157_57, q157_59, q157_62, q157_63, q157_66, q157_67, q157_70, q157_72, q157_73, q157_76, q157_77, q157_80, q157_81, q157_82, q157_85, q157_86, q157_89, q157_90, q157_91, q157_92, q157_94, q157_97, q157_100, q157_102, hF, eq_false hv, zCall_some, Option.toList, List.cons_append, List.nil_append, zb_0, zb_1, zem, z01, z11, nI_add, ↓reduceIte, not_true_eq_false, not_false_eq_true, n0T, n1F, n11T, true_or, or_true, false_or]
theorem vu_1 {sc : Int32 × (Int32 → Int32)} {F : zCF} {f : zF} {a : zA} {j : zJ} {v1 v3 v4 : Value} : ∃ a' : zA, rn sc F 158 2 [.ref 85, v1, .int (nI 0), v3, v4] [] f a j = rn sc F 158 21 [.ref 85, v1, .int (nI 8), v3, v4] [] f a' j ∧ (∀ q, q < 8 → a' 103 (nI q) = nI 0) ∧ ∀ k, k ≠ 103 → a' k = a k := by
  have key := zLoopP (n := 8) (g := fun s : (Nat × zA) => rn sc F 158 2 [.ref 85, v1, .int (nI s.1), v3, v4] [] f s.2 j) (P := fun i s => s.1 = i ∧ (∀ q, q < i → s.2 103 (nI q) = nI 0) ∧ ∀ k, k ≠ 103 → s.2 k = a k) (by
    intro i s hi hP
    obtain ⟨i', a1⟩ := s
    obtain ⟨rfl, g1, g2⟩ := hP
    dsimp only at g1 g2 hi
    have c1 : ¬ nI 8 ≤ nI i' := nI_ge hi (by omega)
    have ix : zIx 21 103 (nI i') := ix103 hi
    refine ⟨(i' + 1, zuA a1 103 (nI i') (nI 0)), ⟨rfl, fun q hq => ?_, fun k hk => (zuA_nk hk).trans (g2 k hk)⟩, ?_⟩
    · dsimp only
      by_cases e : q = i'
      · rw [e]; exact zuA_eq
      · rw [zuA_ni (nI_ne (by omega) (by omega) e)]; exact g1 q (by omega)
    · dsimp only
      rw [q158_2]
      simp only [q158_3, q158_5, q158_8, q158_9, q158_12, q158_13, q158_14, q158_15, q158_18, c1, ix, zCall_some, Option.toList, List.cons_append, List.nil_append, zb_0, zb_1, zem, z01, z11, nI_add, ↓reduceIte, not_true_eq_false, not_false_eq_true, n0T, n1F, n11T, true_or, or_true, false_or]) (0, a) ⟨rfl, fun q hq => by omega, fun _ _ => rfl⟩
  obtain ⟨⟨i, a1⟩, ⟨hi, g1, g2⟩, e⟩ := key
  dsimp only at g1 g2 hi e
  rw [hi] at e
  refine ⟨a1, ?_, g1, g2⟩
  have c1 : nI 8 ≤ nI 8 := nI_le (Nat.le_refl _) (by omega)
  refine Eq.trans (show _ = _ from e) ?_
  simp only [q158_2, q158_3, q158_5, c1, zCall_some, Option.toList, List.cons_append, List.nil_append, zb_0, zb_1, zem, z01, z11, nI_add, ↓reduceIte, not_true_eq_false, not_false_eq_true, n0T, n1F, n11T, true_or, or_true, false_or]
theorem vu_2 {sc : Int32 × (Int32 → Int32)} {F : zCF} {f : zF} {j : zJ} {σ x y : Nat → Nat} {v1 v2 v4 : Value} (h8 : σ 0 ≤ 8) : ∀ (m g : Nat) (a : zA), g + m = σ 0 → MR σ a → (∀ q, q < σ 0 → a 95 (nI q) = nI (y q)) → (∀ q, q < σ 0 → a 103 (nI q) = nI (if q < g then x q + y q else x q)) →
    ∃ a' : zA, rn sc F 158 43 [.ref 85, v1, v2, .int (nI g), v4] [] f a j = rn sc F 158 74 [.ref 85, v1, v2, .int (nI (σ 0)), v4] [] f a' j ∧ (∀ q, q < σ 0 → a' 103 (nI q) = nI (x q + y q)) ∧ ∀ k, k ≠ 103 → a' k = a k := by
  have ix0 : zIx 21 86 (nI 0) := ix86 (by omega)
  intro m
  induction m with
  | zero =>
    intro g a hg hR hY hA
    have e : g = σ 0 := by omega
    subst e
    have e0 := hR 0 (by omega)
    have c1 : nI (σ 0) ≤ nI (σ 0) := nI_le (Nat.le_refl _) (by omega)
    refine ⟨a, ?_, fun q hq => by have := hA q hq; rwa [if_pos hq] at this, fun _ _ => rfl⟩
    simp only [q158_43, q158_44, q158_45, q158_48, q158_49, q158_50, ix0, e0, c1, zCall_some, Option.toList, List.cons_append, List.nil_append, zb_0, zb_1, zem, z01, z11, nI_add, ↓reduceIte, not_true_eq_false, not_false_eq_true, n0T, n1F, n11T, true_or, or_true, false_or]
  | succ m ih =>
    intro g a hg hR hY hA
    have hgn : g < σ 0 := by omega
    have e0 := hR 0 (by omega)
    have c1 : ¬ nI (σ 0) ≤ nI g := nI_ge hgn (by omega)
    have i95 : zIx 21 95 (nI g) := ix95 (by omega)
    have i103 : zIx 21 103 (nI g) := ix103 (by omega)
    have e1 : a 103 (nI g) = nI (x g) := by rw [hA g hgn, if_neg (by omega)]
    obtain ⟨a', h1, h2, h3⟩ := ih (g + 1) (zuA a 103 (nI g) (nI (x g + y g))) (by omega) (hR.of (zuA_nk (by omega))) (fun q hq => by rw [zuA_nk (by omega)]; exact hY q hq) (fun q hq => by
      by_cases e : q = g
      · rw [e, if_pos (by omega)]; exact zuA_eq
      · rw [zuA_ni (nI_ne (by omega) (by omega) e), hA q hq]
        by_cases z : q < g
        · rw [if_pos z, if_pos (by omega)]
        · rw [if_neg z, if_neg (by omega)])
    refine ⟨a', ?_, h2, fun k hk => by rw [h3 k hk, zuA_nk hk]⟩
    rw [← h1, q158_43]
    simp only [q158_0, q158_1, q158_2, q158_3, q158_5, q158_8, q158_9, q158_12, q158_13, q158_14, q158_15, q158_18, q158_21, q158_22, q158_23, q158_24, q158_25, q158_28, q158_29, q158_30, q158_33, q158_34, q158_35, q158_36, q158_37, q158_38, q158_41, q158_42, q158_44, q158_45, q158_48, q158_49, q158_50, q158_53, q158_54, q158_57, q158_58, q158_59, q158_60, q158_61, q158_64, q158_65, q158_66, q158_67, q158_68, q158_71, q158_77, q158_80, q158_81, q158_82, q158_83, q158_84, q158_85, q158_87, q158_89, q158_90, q158_93, q158_94, q158_95, q158_98, q158_99, q158_101, q158_104, q158_107, q158_110, q158_111, q158_114, q158_115, q158_118, q158_120, q158_121, q158_122, q158_125, q158_126, q158_129, q158_131, q158_132, q158_133, q158_134, q158_137, q158_138, q158_141, q158_143, q158_144, q158_145, q158_148, q158_149, q158_152, q158_154, q158_155, q158_156, q158_159, q158_162, q158_163, q158_164, q158_165, ix0, e0, c1, i95, i103, e1, hY g hgn, zCall_some, Option.toList, List.cons_append, List.nil_append, zb_0, zb_1, zem, z01, z11, nI_add, ↓reduceIte, not_true_eq_false, not_false_eq_true, n0T, n1F, n11T, true_or, or_true, false_or]
def oJ : Option Nat → Int32
  | none => -1
  | some y => nI y
theorem oJ_n : oJ none = -1 := rfl
theorem oJ_s (y : Nat) : oJ (some y) = nI y := rfl
theorem vu_3 {sc : Int32 × (Int32 → Int32)} {d : Nat} {f : zF} {a : zA} {j : zJ} {σ x : Nat → Nat} {v1 : Value} (hR : MR σ a) (hV : VR σ) (hx : ∀ g, g < σ 0 → x g ≤ 2000) (hA : ∀ q, q < σ 0 → a 103 (nI q) = nI (x q)) : ∀ (m g : Nat), g + m = σ 0 →
    rn sc (cf sc (d + 5)) 158 87 [.ref 85, v1, .int (oJ (mxO (prB σ) x g)), .int (oJ (mnO (prB σ) x g)), .int (nI g)] [] f a j = some (some (.int (nI ((mxO (prB σ) x (σ 0)).getD 0 - (mnO (prB σ) x (σ 0)).getD 0))), f, a, j) := by
  have hn := hV.1
  have ix0 : zIx 21 86 (nI 0) := ix86 (by omega)
  have e0 := hR 0 (by omega)
  intro m
  induction m with
  | zero =>
    intro g hg
    have e : g = σ 0 := by omega
    subst e
    have c1 : nI (σ 0) ≤ nI (σ 0) := nI_le (Nat.le_refl _) (by omega)
    rcases mn_mx (P := prB σ) (x := x) (σ 0) with ⟨h1, h2⟩ | ⟨y, z, h1, h2, h3⟩
    · rw [h1, h2]
      have e5 : oJ none - oJ none = nI 0 := by decide
      simp only [q158_87, q158_89, q158_90, q158_93, q158_94, q158_95, q158_162, q158_163, q158_164, q158_165, ix0, e0, c1, e5, Option.getD_none, Nat.sub_self, zCall_some, Option.toList, List.cons_append, List.nil_append, zb_0, zb_1, zem, z01, z11, nI_add, ↓reduceIte, not_true_eq_false, not_false_eq_true, n0T, n1F, n11T, true_or, or_true, false_or]
    · rw [h1, h2]
      have e5 : oJ (some y) - oJ (some z) = nI (y - z) := pk_sub h3
      simp only [q158_87, q158_89, q158_90, q158_93, q158_94, q158_95, q158_162, q158_163, q158_164, q158_165, ix0, e0, c1, e5, Option.getD_some, zCall_some, Option.toList, List.cons_append, List.nil_append, zb_0, zb_1, zem, z01, z11, nI_add, ↓reduceIte, not_true_eq_false, not_false_eq_true, n0T, n1F, n11T, true_or, or_true, false_or]
  | succ m ih =>
    intro g hg
    have hgn : g < σ 0 := by omega
    have c1 : ¬ nI (σ 0) ≤ nI g := nI_ge hgn (by omega)
    have ix : zIx 21 103 (nI g) := ix103 (by omega)
    have hW := m_isAwayR (sc := sc) (d := d + 4) (f := f) (j := j) hR (show g < 8 by omega) (hV.2.2.1 g hgn).2.2
    rw [← ih (g + 1) (by omega), q158_87, mxO_s, mnO_s]
    by_cases haw : σ (32 + g) = 1
    · have hp : ¬ prB σ g = true := by unfold prB; simp [haw]
      rw [if_neg hp, if_neg hp]
      simp only [q158_0, q158_1, q158_2, q158_3, q158_5, q158_8, q158_9, q158_12, q158_13, q158_14, q158_15, q158_18, q158_21, q158_22, q158_23, q158_24, q158_25, q158_28, q158_29, q158_30, q158_33, q158_34, q158_35, q158_36, q158_37, q158_38, q158_41, q158_42, q158_43, q158_44, q158_45, q158_48, q158_49, q158_50, q158_53, q158_54, q158_57, q158_58, q158_59, q158_60, q158_61, q158_64, q158_65, q158_66, q158_67, q158_68, q158_71, q158_74, q158_77, q158_80, q158_81, q158_82, q158_83, q158_84, q158_85, q158_89, q158_90, q158_93, q158_94, q158_95, q158_98, q158_99, q158_101, q158_104, q158_107, q158_110, q158_111, q158_114, q158_115, q158_118, q158_120, q158_121, q158_122, q158_125, q158_126, q158_129, q158_131, q158_132, q158_133, q158_134, q158_137, q158_138, q158_141, q158_143, q158_144, q158_145, q158_148, q158_149, q158_152, q158_154, q158_155, q158_156, q158_159, q158_163, q158_164, q158_165, ix0, e0, c1, hW, eq_true haw, zCall_some, Option.toList, List.cons_append, List.nil_append, zb_0, zb_1, zem, z01, z11, nI_add, ↓reduceIte, not_true_eq_false, not_false_eq_true, n0T, n1F, n11T, true_or, or_true, false_or]
    · have hp : prB σ g = true := by unfold prB; simp [haw, hgn]
      rw [if_pos hp, if_pos hp]
      rcases mn_mx (P := prB σ) (x := x) g with ⟨h1, h2⟩ | ⟨y, z, h1, h2, h3⟩
      · rw [h1, h2]
        have k1 : (-1 : Int32) < 0 := by decide
        dsimp only
        simp only [q158_0, q158_1, q158_2, q158_3, q158_5, q158_8, q158_9, q158_12, q158_13, q158_14, q158_15, q158_18, q158_21, q158_22, q158_23, q158_24, q158_25, q158_28, q158_29, q158_30, q158_33, q158_34, q158_35, q158_36, q158_37, q158_38, q158_41, q158_42, q158_43, q158_44, q158_45, q158_48, q158_49, q158_50, q158_53, q158_54, q158_57, q158_58, q158_59, q158_60, q158_61, q158_64, q158_65, q158_66, q158_67, q158_68, q158_71, q158_74, q158_77, q158_80, q158_81, q158_82, q158_83, q158_84, q158_85, q158_89, q158_90, q158_93, q158_94, q158_95, q158_98, q158_99, q158_101, q158_104, q158_107, q158_110, q158_111, q158_114, q158_115, q158_118, q158_120, q158_121, q158_122, q158_125, q158_126, q158_129, q158_131, q158_132, q158_133, q158_134, q158_137, q158_138, q158_141, q158_143, q158_144, q158_145, q158_148, q158_149, q158_152, q158_154, q158_155, q158_156, q158_159, q158_163, q158_164, q158_165, ix0, e0, c1, hW, eq_false haw, ix, hA g hgn, oJ_n, oJ_s, k1, zCall_some, Option.toList, List.cons_append, List.nil_append, zb_0, zb_1, zem, z01, z11, nI_add, ↓reduceIte, not_true_eq_false, not_false_eq_true, n0T, n1F, n11T, true_or, or_true, false_or]
      · rw [h1, h2]
        have hy := mxO_le (P := prB σ) (x := x) g (fun q hq => hx q (by omega)) y h1
        have hxg := hx g hgn
        have k1 : ¬ nI y < 0 := nI_pos (by omega)
        have k2 : ¬ nI z < 0 := nI_pos (by omega)
        dsimp only
        by_cases q1 : y < x g
        · have x1 : ¬ nI (x g) ≤ nI y := nI_ge q1 (by omega)
          rw [if_pos q1]
          by_cases q2 : x g < z
          · have x2 : ¬ nI z ≤ nI (x g) := nI_ge q2 (by omega)
            rw [if_pos q2]
            simp only [q158_0, q158_1, q158_2, q158_3, q158_5, q158_8, q158_9, q158_12, q158_13, q158_14, q158_15, q158_18, q158_21, q158_22, q158_23, q158_24, q158_25, q158_28, q158_29, q158_30, q158_33, q158_34, q158_35, q158_36, q158_37, q158_38, q158_41, q158_42, q158_43, q158_44, q158_45, q158_48, q158_49, q158_50, q158_53, q158_54, q158_57, q158_58, q158_59, q158_60, q158_61, q158_64, q158_65, q158_66, q158_67, q158_68, q158_71, q158_74, q158_77, q158_80, q158_81, q158_82, q158_83, q158_84, q158_85, q158_89, q158_90, q158_93, q158_94, q158_95, q158_98, q158_99, q158_101, q158_104, q158_107, q158_110, q158_111, q158_114, q158_115, q158_118, q158_120, q158_121, q158_122, q158_125, q158_126, q158_129, q158_131, q158_132, q158_133, q158_134, q158_137, q158_138, q158_141, q158_143, q158_144, q158_145, q158_148, q158_149, q158_152, q158_154, q158_155, q158_156, q158_159, q158_163, q158_164, q158_165, ix0, e0, c1, hW, eq_false haw, ix, hA g hgn, oJ_s, k1, k2, x1, x2, zCall_some, Option.toList, List.cons_append, List.nil_append, zb_0, zb_1, zem, z01, z11, nI_add, ↓reduceIte, not_true_eq_false, not_false_eq_true, n0T, n1F, n11T, true_or, or_true, false_or]
          · have x2 : nI z ≤ nI (x g) := nI_le (by omega) (by omega)
            rw [if_neg q2]
            simp only [q158_0, q158_1, q158_2, q158_3, q158_5, q158_8, q158_9, q158_12, q158_13, q158_14, q158_15, q158_18, q158_21, q158_22, q158_23, q158_24, q158_25, q158_28, q158_29, q158_30, q158_33, q158_34, q158_35, q158_36, q158_37, q158_38, q158_41, q158_42, q158_43, q158_44, q158_45, q158_48, q158_49, q158_50, q158_53, q158_54, q158_57, q158_58, q158_59, q158_60, q158_61, q158_64, q158_65, q158_66, q158_67, q158_68, q158_71, q158_74, q158_77, q158_80, q158_81, q158_82, q158_83, q158_84, q158_85, q158_89, q158_90, q158_93, q158_94, q158_95, q158_98, q158_99, q158_101, q158_104, q158_107, q158_110, q158_111, q158_114, q158_115, q158_118, q158_120, q158_121, q158_122, q158_125, q158_126, q158_129, q158_131, q158_132, q158_133, q158_134, q158_137, q158_138, q158_141, q158_143, q158_144, q158_145, q158_148, q158_149, q158_152, q158_154, q158_155, q158_156, q158_159, q158_163, q158_164, q158_165, ix0, e0, c1, hW, eq_false haw, ix, hA g hgn, oJ_s, k1, k2, x1, x2, zCall_some, Option.toList, List.cons_append, List.nil_append, zb_0, zb_1, zem, z01, z11, nI_add, ↓reduceIte, not_true_eq_false, not_false_eq_true, n0T, n1F, n11T, true_or, or_true, false_or]
        · have x1 : nI (x g) ≤ nI y := nI_le (by omega) (by omega)
          rw [if_neg q1]
          by_cases q2 : x g < z
          · have x2 : ¬ nI z ≤ nI (x g) := nI_ge q2 (by omega)
            rw [if_pos q2]
            simp only [q158_0, q158_1, q158_2, q158_3, q158_5, q158_8, q158_9, q158_12, q158_13, q158_14, q158_15, q158_18, q158_21, q158_22, q158_23, q158_24, q158_25, q158_28, q158_29, q158_30, q158_33, q158_34, q158_35, q158_36, q158_37, q158_38, q158_41, q158_42, q158_43, q158_44, q158_45, q158_48, q158_49, q158_50, q158_53, q158_54, q158_57, q158_58, q158_59, q158_60, q158_61, q158_64, q158_65, q158_66, q158_67, q158_68, q158_71, q158_74, q158_77, q158_80, q158_81, q158_82, q158_83, q158_84, q158_85, q158_89, q158_90, q158_93, q158_94, q158_95, q158_98, q158_99, q158_101, q158_104, q158_107, q158_110, q158_111, q158_114, q158_115, q158_118, q158_120, q158_121, q158_122, q158_125, q158_126, q158_129, q158_131, q158_132, q158_133, q158_134, q158_137, q158_138, q158_141, q158_143, q158_144, q158_145, q158_148, q158_149, q158_152, q158_154, q158_155, q158_156, q158_159, q158_163, q158_164, q158_165, ix0, e0, c1, hW, eq_false haw, ix, hA g hgn, oJ_s, k1, k2, x1, x2, zCall_some, Option.toList, List.cons_append, List.nil_append, zb_0, zb_1, zem, z01, z11, nI_add, ↓reduceIte, not_true_eq_false, not_false_eq_true, n0T, n1F, n11T, true_or, or_true, false_or]
          · have x2 : nI z ≤ nI (x g) := nI_le (by omega) (by omega)
            rw [if_neg q2]
            simp only [q158_0, q158_1, q158_2, q158_3, q158_5, q158_8, q158_9, q158_12, q158_13, q158_14, q158_15, q158_18, q158_21, q158_22, q158_23, q158_24, q158_25, q158_28, q158_29, q158_30, q158_33, q158_34, q158_35, q158_36, q158_37, q158_38, q158_41, q158_42, q158_43, q158_44, q158_45, q158_48, q158_49, q158_50, q158_53, q158_54, q158_57, q158_58, q158_59, q158_60, q158_61, q158_64, q158_65, q158_66, q158_67, q158_68, q158_71, q158_74, q158_77, q158_80, q158_81, q158_82, q158_83, q158_84, q158_85, q158_89, q158_90, q158_93, q158_94, q158_95, q158_98, q158_99, q158_101, q158_104, q158_107, q158_110, q158_111, q158_114, q158_115, q158_118, q158_120, q158_121, q158_122, q158_125, q158_126, q158_129, q158_131, q158_132, q158_133, q158_134, q158_137, q158_138, q158_141, q158_143, q158_144, q158_145, q158_148, q158_149, q158_152, q158_154, q158_155, q158_156, q158_159, q158_163, q158_164, q158_165, ix0, e0, c1, hW, eq_false haw, ix, hA g hgn, oJ_s, k1, k2, x1, x2, zCall_some, Option.toList, List.cons_append, List.nil_append, zb_0, zb_1, zem, z01, z11, nI_add, ↓reduceIte, not_true_eq_false, not_false_eq_true, n0T, n1F, n11T, true_or, or_true, false_or]
/-- cells that such questions may change -/
def MG (f f' : zF) (a a' : zA) : Prop := (∀ k, k ≠ 85 → f' k = f k) ∧ (∀ i, i ≠ 12 → i ≠ 13 → i ≠ 14 → f' 85 i = f 85 i) ∧ ∀ k, (k < 89 ∨ (97 < k ∧ k < 103) ∨ 103 < k) → a' k = a k
theorem MG.rf {f : zF} {a : zA} : MG f f a a := ⟨fun _ _ => rfl, fun _ _ _ _ => rfl, fun _ _ => rfl⟩
theorem MG.tr {f f1 f2 : zF} {a a1 a2 : zA} (h : MG f f1 a a1) (g : MG f1 f2 a1 a2) : MG f f2 a a2 := ⟨fun k hk => (g.1 k hk).trans (h.1 k hk), fun i h1 h2 h3 => (g.2.1 i h1 h2 h3).trans (h.2.1 i h1 h2 h3), fun k hk => (g.2.2 k hk).trans (h.2.2 k hk)⟩
theorem MF.g {f f' : zF} {a a' : zA} (h : MF f f' a a') : MG f f' a a' := ⟨h.1, h.2.1, fun k hk => h.2.2 k (by omega)⟩
theorem MG.w {f f' : zF} {a a' : zA} (h : MG f f' a a') : MFW f f' a a' := ⟨h.1, h.2.1, fun k hk => h.2.2 k (by omega)⟩
theorem MG.r {σ : Nat → Nat} {f f' : zF} {a a' : zA} (h : MG f f' a a') (hR : MR σ a) : MR σ a' := hR.of (h.2.2 86 (by omega))
theorem m_unevenOf {sc : Int32 × (Int32 → Int32)} {f : zF} {a : zA} {j : zJ} {d m : Nat} {σ : Nat → Nat} (hR : MR σ a) (hV : VR σ) (hw : σ 3 ≤ 999) (hr : σ 2 ≤ 3) (hm : m ≤ 12) : ∃ (f' : zF) (a' : zA), cf sc (d + 6) 158 [.ref 85, .int (nI m)] f a j = some (some (.int (nI (unO σ m))), f', a', j) ∧ MG f f' a a' := by
  have hn := hV.1
  have ix3 : zIx 21 86 (nI 3) := ix86 (by omega)
  obtain ⟨a1, b1, b2, b3⟩ := vu_1 (sc := sc) (F := cf sc (d + 5)) (f := f) (a := a) (j := j) (v1 := .int (nI m)) (v3 := .null) (v4 := .null)
  have hM1 : MG f f a a1 := ⟨fun _ _ => rfl, fun _ _ _ _ => rfl, fun k hk => b3 k (by omega)⟩
  have key := zLoopP (n := m) (g := fun s : (Nat × zF × zA × Value) => rn sc (cf sc (d + 5)) 158 23 [.ref 85, .int (nI m), .int (nI s.1), s.2.2.2, .null] [] s.2.1 s.2.2.1 j) (P := fun i s => s.1 = i ∧ MG f s.2.1 a s.2.2.1 ∧ ∀ q, q < σ 0 → s.2.2.1 103 (nI q) = nI (unF σ q i)) (by
    intro i s hi hP
    obtain ⟨i', f1, a2, v3⟩ := s
    obtain ⟨rfl, hM, hA⟩ := hP
    dsimp only at hM hi hA
    have hR2 := hM.r hR
    have e3 := hR2 3 (by omega)
    have c1 : ¬ nI m ≤ nI i' := nI_ge hi (by omega)
    obtain ⟨f2, a3, t1, t2, t3⟩ := m_tellsF (sc := sc) (d := d) (f := f1) (j := j) (w := σ 3 + i') hR2 hV (by omega) hr
    obtain ⟨a4, s1, s2, s3⟩ := vu_2 (sc := sc) (F := cf sc (d + 5)) (f := f2) (j := j) (σ := σ) (x := fun q => unF σ q i') (y := ngF σ (σ 3 + i') false) (v1 := .int (nI m)) (v2 := .int (nI i')) (v4 := .null) hn (σ 0) 0 a3 (by omega) (t3.r hR2) (fun q hq => (t2.2.2 q hq).2) (fun q hq => by rw [if_neg (by omega), t3.2.2 103 (by omega)]; exact hA q hq)
    refine ⟨(i' + 1, f2, a4, .int (nI (σ 0))), ⟨rfl, hM.tr (t3.g.tr ⟨fun _ _ => rfl, fun _ _ _ _ => rfl, fun k hk => s3 k (by omega)⟩), s2⟩, ?_⟩
    dsimp only
    rw [q158_23]
    simp only [q158_0, q158_1, q158_2, q158_3, q158_5, q158_8, q158_9, q158_12, q158_13, q158_14, q158_15, q158_18, q158_21, q158_22, q158_24, q158_25, q158_28, q158_29, q158_30, q158_33, q158_34, q158_35, q158_36, q158_37, q158_38, q158_41, q158_42, q158_44, q158_45, q158_48, q158_49, q158_50, q158_53, q158_54, q158_57, q158_58, q158_59, q158_60, q158_61, q158_64, q158_65, q158_66, q158_67, q158_68, q158_71, q158_77, q158_80, q158_81, q158_82, q158_83, q158_84, q158_85, q158_87, q158_89, q158_90, q158_93, q158_94, q158_95, q158_98, q158_99, q158_101, q158_104, q158_107, q158_110, q158_111, q158_114, q158_115, q158_118, q158_120, q158_121, q158_122, q158_125, q158_126, q158_129, q158_131, q158_132, q158_133, q158_134, q158_137, q158_138, q158_141, q158_143, q158_144, q158_145, q158_148, q158_149, q158_152, q158_154, q158_155, q158_156, q158_159, q158_162, q158_163, q158_164, q158_165, ix3, e3, c1, t1, zCall_some, Option.toList, List.cons_append, List.nil_append, zb_0, zb_1, zem, z01, z11, nI_add, ↓reduceIte, not_true_eq_false, not_false_eq_true, n0T, n1F, n11T, true_or, or_true, false_or]
    rw [s1]
    simp only [q158_0, q158_1, q158_2, q158_3, q158_5, q158_8, q158_9, q158_12, q158_13, q158_14, q158_15, q158_18, q158_21, q158_22, q158_24, q158_25, q158_28, q158_29, q158_30, q158_33, q158_34, q158_35, q158_36, q158_37, q158_38, q158_41, q158_42, q158_44, q158_45, q158_48, q158_49, q158_50, q158_53, q158_54, q158_57, q158_58, q158_59, q158_60, q158_61, q158_64, q158_65, q158_66, q158_67, q158_68, q158_71, q158_74, q158_77, q158_80, q158_81, q158_82, q158_83, q158_84, q158_85, q158_87, q158_89, q158_90, q158_93, q158_94, q158_95, q158_98, q158_99, q158_101, q158_104, q158_107, q158_110, q158_111, q158_114, q158_115, q158_118, q158_120, q158_121, q158_122, q158_125, q158_126, q158_129, q158_131, q158_132, q158_133, q158_134, q158_137, q158_138, q158_141, q158_143, q158_144, q158_145, q158_148, q158_149, q158_152, q158_154, q158_155, q158_156, q158_159, q158_162, q158_163, q158_164, q158_165, zCall_some, Option.toList, List.cons_append, List.nil_append, zb_0, zb_1, zem, z01, z11, nI_add, ↓reduceIte, not_true_eq_false, not_false_eq_true, n0T, n1F, n11T, true_or, or_true, false_or]) (0, f, a1, .null) ⟨rfl, hM1, fun q hq => b2 q (by omega)⟩
  obtain ⟨⟨i, f1, a2, v3⟩, ⟨hi, hM, hA⟩, e⟩ := key
  dsimp only at hM hA hi e
  rw [hi] at e
  refine ⟨f1, a2, ?_, hM⟩
  have hR2 := hM.r hR
  have c1 : nI m ≤ nI m := nI_le (Nat.le_refl _) (by omega)
  have h3 := vu_3 (sc := sc) (d := d) (f := f1) (a := a2) (j := j) (σ := σ) (x := fun g => unF σ g m) (v1 := .int (nI m)) hR2 hV (fun g hg => by have := un_le hV hg m; omega) hA (σ 0) 0 (by omega)
  rw [en158, q158_0, q158_1]
  refine Eq.trans (show _ = _ from b1) ?_
  simp only [q158_21, q158_22, zCall_some, Option.toList, List.cons_append, List.nil_append, zb_0, zb_1, zem, z01, z11, nI_add, ↓reduceIte, not_true_eq_false, not_false_eq_true, n0T, n1F, n11T, true_or, or_true, false_or]
  refine Eq.trans (show _ = _ from e) ?_
  simp only [q158_23, q158_24, q158_25, q158_80, q158_81, q158_82, q158_83, q158_84, q158_85, c1, zCall_some, Option.toList, List.cons_append, List.nil_append, zb_0, zb_1, zem, z01, z11, nI_add, ↓reduceIte, not_true_eq_false, not_false_eq_true, n0T, n1F, n11T, true_or, or_true, false_or]
  exact h3
theorem y_uneven {sc : Int32 × (Int32 → Int32)} {f : zF} {a : zA} {j : zJ} {d : Nat} {σ : Nat → Nat} {n : Int32} (hR : MR σ a) (hV : VS σ) : ∃ (f' : zF) (a' : zA), cf sc (d + 7) 159 [.ref 85, .int n] f a j = some (some (.int (sUneven σ n)), f', a', j) ∧ MG f f' a a' := by
  rw [en159]
  unfold sUneven
  by_cases hm : zBtw n 1 12
  · rw [if_pos hm]
    obtain ⟨m, m1, m2, rfl⟩ := zBtw_of (by omega) (by omega) hm
    rw [nI_clamp (n := m) (by omega)]
    obtain ⟨f1, a1, t1, t2⟩ := m_unevenOf (sc := sc) (d := d) (f := f) (j := j) hR hV.1.1 hV.1.2.2.2.2 hV.1.2.2.2.1 m2
    refine ⟨f1, a1, ?_, t2⟩
    simp only [q159_0, q159_1, q159_2, q159_3, q159_6, q159_9, q159_12, q159_13, q159_14, q159_17, q159_20, q159_22, in112, eq_true hm, t1, zCall_some, Option.toList, List.cons_append, List.nil_append, zb_0, zb_1, zem, z01, z11, nI_add, ↓reduceIte, not_true_eq_false, not_false_eq_true, n0T, n1F, n11T, true_or, or_true, false_or]
  · rw [if_neg hm]
    refine ⟨f, a, ?_, MG.rf⟩
    simp only [q159_0, q159_1, q159_2, q159_3, q159_6, q159_9, q159_12, q159_13, q159_14, q159_17, q159_20, q159_22, in112, eq_false hm, zCall_some, Option.toList, List.cons_append, List.nil_append, zb_0, zb_1, zem, z01, z11, nI_add, ↓reduceIte, not_true_eq_false, not_false_eq_true, n0T, n1F, n11T, true_or, or_true, false_or]
theorem MR.re {σ : Nat → Nat} {a : zA} {p x y : Nat} (h : MR (zup σ p x) a) (hp : p < 140) : MR (zup σ p y) (zuA a 86 (nI p) (nI y)) := (h.set (x := y) hp).ext (fun i _ => by
  by_cases e : i = p
  · rw [e, zup_eq, zup_eq]
  · rw [zup_ne e, zup_ne e, zup_ne e])
theorem MFW.s86 {f : zF} {a : zA} {i x : Int32} : MFW f f a (zuA a 86 i x) := MFW.a (fun k hk => zuA_nk (by omega))
theorem y_evenest {sc : Int32 × (Int32 → Int32)} {f : zF} {a : zA} {j : zJ} {d : Nat} {σ : Nat → Nat} {n : Int32} (hR : MR σ a) (hV : VS σ) : ∃ (f' : zF) (a' : zA), cf sc (d + 7) 160 [.ref 85, .int n] f a j = some (some (.int (sEvenest σ n)), f', a', j) ∧ MR σ a' ∧ MFW f f' a a' := by
  have hVR := hV.1.1
  have hw := hV.1.2.2.2.2
  rw [en160]
  unfold sEvenest
  by_cases hm : zBtw n 1 12
  · rw [if_pos hm]
    obtain ⟨m, m1, m2, rfl⟩ := zBtw_of (by omega) (by omega) hm
    rw [nI_clamp (n := m) (by omega)]
    have hVu : ∀ r, VR (zup σ 2 r) := fun r => hVR.up (fun i _ q _ => zup_ne q) (by rw [zup_ne (by omega)]; exact hVR.2.1)
    have hu : ∀ r, unO (zup σ 2 r) m ≤ 2000 := fun r => ng_le97 (hVu r) m2
    have ix2 : zIx 21 86 (nI 2) := ix86 (by omega)
    have e2 := hR 2 (by omega)
    have hRr : ∀ x r (a : zA), MR (zup σ 2 x) a → MR (zup σ 2 r) (zuA a 86 (nI 2) (nI r)) := fun x r a h => h.re (by omega)
    have hun : ∀ (x r : Nat) (f : zF) (a : zA), r ≤ 3 → MR (zup σ 2 x) a → ∃ (f' : zF) (a' : zA), cf sc (d + 6) 158 [.ref 85, .int (nI m)] f (zuA a 86 (nI 2) (nI r)) j = some (some (.int (nI (unO (zup σ 2 r) m))), f', a', j) ∧ MR (zup σ 2 r) a' ∧ MFW f f' a a' := by
      intro x r f a hr h
      obtain ⟨f1, a1, t1, t2⟩ := m_unevenOf (sc := sc) (d := d) (f := f) (j := j) (hRr x r a h) (hVu r) (by rw [zup_ne (by omega)]; exact hw) (by rw [zup_eq]; exact hr) m2
      exact ⟨f1, a1, t1, t2.r (hRr x r a h), MFW.s86.tr t2.w⟩
    obtain ⟨f0, a0, t0, r0, w0⟩ := hun (σ 2) 0 f a (by omega) (hR.ext (fun i _ => by rw [zup_self]))
    have key := zLoopP (n := 3) (g := fun s : (Nat × zF × zA × Value) => rn sc (cf sc (d + 6)) 160 30 [.ref 85, .int (nI m), .int (nI (σ 2)), .int (nI (evF (fun r => unO (zup σ 2 r) m) s.1)), .int (nI (unO (zup σ 2 (evF (fun r => unO (zup σ 2 r) m) s.1)) m)), .int (nI (s.1 + 1)), s.2.2.2] [] s.2.1 s.2.2.1 j) (P := fun i s => s.1 = i ∧ MFW f s.2.1 a s.2.2.1 ∧ ∃ x, MR (zup σ 2 x) s.2.2.1) (by
      intro i s hi hP
      obtain ⟨i', f1, a1, v6⟩ := s
      obtain ⟨rfl, hM, x, hx⟩ := hP
      dsimp only at hM hi hx
      obtain ⟨f2, a2, t1, t2, t3⟩ := hun x (i' + 1) f1 a1 (by omega) hx
      refine ⟨(i' + 1, f2, a2, .int (nI (unO (zup σ 2 (i' + 1)) m))), ⟨rfl, hM.tr t3, _, t2⟩, ?_⟩
      have c1 : ¬ nI 4 ≤ nI (i' + 1) := nI_ge (by omega) (by omega)
      have es : evF (fun r => unO (zup σ 2 r) m) (i' + 1) = if unO (zup σ 2 (i' + 1)) m < unO (zup σ 2 (evF (fun r => unO (zup σ 2 r) m) i')) m then i' + 1 else evF (fun r => unO (zup σ 2 r) m) i' := rfl
      have h1 := hu (i' + 1)
      have h2 := hu (evF (fun r => unO (zup σ 2 r) m) i')
      have c0 : ¬ nI (unO (zup σ 2 (evF (fun r => unO (zup σ 2 r) m) i')) m) < 0 := nI_pos (by omega)
      dsimp only
      rw [q160_30, es]
      by_cases hc : unO (zup σ 2 (i' + 1)) m < unO (zup σ 2 (evF (fun r => unO (zup σ 2 r) m) i')) m
      · have c2 : nI (unO (zup σ 2 (i' + 1)) m) < nI (unO (zup σ 2 (evF (fun r => unO (zup σ 2 r) m) i')) m) := nI_lt hc (by omega)
        rw [if_pos hc]
        simp only [q160_0, q160_1, q160_2, q160_3, q160_6, q160_9, q160_12, q160_14, q160_15, q160_16, q160_19, q160_20, q160_21, q160_22, q160_23, q160_24, q160_25, q160_27, q160_28, q160_32, q160_33, q160_36, q160_37, q160_40, q160_41, q160_43, q160_44, q160_45, q160_46, q160_49, q160_51, q160_53, q160_56, q160_58, q160_60, q160_63, q160_66, q160_68, q160_69, q160_71, q160_73, q160_76, q160_79, q160_80, q160_83, q160_84, q160_85, q160_86, q160_87, c1, ix2, t1, c0, c2, zCall_some, Option.toList, List.cons_append, List.nil_append, zb_0, zb_1, zem, z01, z11, nI_add, ↓reduceIte, not_true_eq_false, not_false_eq_true, n0T, n1F, n11T, true_or, or_true, false_or]
      · have c2 : ¬ nI (unO (zup σ 2 (i' + 1)) m) < nI (unO (zup σ 2 (evF (fun r => unO (zup σ 2 r) m) i')) m) := nI_nlt (by omega) (by omega)
        rw [if_neg hc]
        simp only [q160_0, q160_1, q160_2, q160_3, q160_6, q160_9, q160_12, q160_14, q160_15, q160_16, q160_19, q160_20, q160_21, q160_22, q160_23, q160_24, q160_25, q160_27, q160_28, q160_32, q160_33, q160_36, q160_37, q160_40, q160_41, q160_43, q160_44, q160_45, q160_46, q160_49, q160_51, q160_53, q160_56, q160_58, q160_60, q160_63, q160_66, q160_68, q160_69, q160_71, q160_73, q160_76, q160_79, q160_80, q160_83, q160_84, q160_85, q160_86, q160_87, c1, ix2, t1, c0, c2, zCall_some, Option.toList, List.cons_append, List.nil_append, zb_0, zb_1, zem, z01, z11, nI_add, ↓reduceIte, not_true_eq_false, not_false_eq_true, n0T, n1F, n11T, true_or, or_true, false_or]) (0, f0, a0, .int (nI (unO (zup σ 2 0) m))) ⟨rfl, w0, 0, r0⟩
    obtain ⟨⟨i, f1, a1, v6⟩, ⟨hi, hM, x, hx⟩, e⟩ := key
    dsimp only at hM hx hi e
    rw [hi] at e
    refine ⟨f1, zuA a1 86 (nI 2) (nI (σ 2)), ?_, hx.back (by omega), hM.tr MFW.s86⟩
    have c1 : nI 4 ≤ nI (3 + 1) := nI_le (by omega) (by omega)
    have c2 : ¬ nI 4 ≤ nI 0 := nI_ge (by omega) (by omega)
    have c3 : (-1 : Int32) < 0 := by decide
    simp only [q160_0, q160_1, q160_2, q160_3, q160_6, q160_9, q160_15, q160_16, q160_19, q160_20, q160_21, q160_22, q160_23, q160_24, q160_25, q160_27, q160_28, in112, eq_true hm, ix2, e2, zCall_some, Option.toList, List.cons_append, List.nil_append, zb_0, zb_1, zem, z01, z11, nI_add, ↓reduceIte, not_true_eq_false, not_false_eq_true, n0T, n1F, n11T, true_or, or_true, false_or]
    rw [q160_30]
    simp only [q160_0, q160_1, q160_2, q160_3, q160_6, q160_9, q160_12, q160_14, q160_15, q160_16, q160_19, q160_20, q160_21, q160_22, q160_23, q160_24, q160_25, q160_27, q160_28, q160_32, q160_33, q160_36, q160_37, q160_40, q160_41, q160_43, q160_44, q160_45, q160_46, q160_49, q160_51, q160_53, q160_56, q160_58, q160_60, q160_63, q160_66, q160_68, q160_69, q160_71, q160_73, q160_76, q160_79, q160_80, q160_83, q160_84, q160_85, q160_86, q160_87, ix2, c2, t0, c3, zCall_some, Option.toList, List.cons_append, List.nil_append, zb_0, zb_1, zem, z01, z11, nI_add, ↓reduceIte, not_true_eq_false, not_false_eq_true, n0T, n1F, n11T, true_or, or_true, false_or]
    refine Eq.trans (show _ = _ from e) ?_
    simp only [q160_30, q160_32, q160_33, q160_79, q160_80, q160_83, q160_84, q160_85, q160_86, q160_87, c1, ix2, zCall_some, Option.toList, List.cons_append, List.nil_append, zb_0, zb_1, zem, z01, z11, nI_add, ↓reduceIte, not_true_eq_false, not_false_eq_true, n0T, n1F, n11T, true_or, or_true, false_or]
  · rw [if_neg hm]
    refine ⟨f, a, ?_, hR, MFW.rf⟩
    simp only [q160_0, q160_1, q160_2, q160_3, q160_6, q160_9, q160_12, q160_14, q160_15, q160_16, q160_19, q160_20, q160_21, q160_22, q160_23, q160_24, q160_25, q160_27, q160_28, q160_32, q160_33, q160_36, q160_37, q160_40, q160_41, q160_43, q160_44, q160_45, q160_46, q160_49, q160_51, q160_53, q160_56, q160_58, q160_60, q160_63, q160_66, q160_68, q160_69, q160_71, q160_73, q160_76, q160_79, q160_80, q160_83, q160_84, q160_85, q160_86, q160_87, in112, eq_false hm, zCall_some, Option.toList, List.cons_append, List.nil_append, zb_0, zb_1, zem, z01, z11, nI_add, ↓reduceIte, not_true_eq_false, not_false_eq_true, n0T, n1F, n11T, true_or, or_true, false_or]
