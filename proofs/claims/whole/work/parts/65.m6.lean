/-! ===== the reference: begin, tells, water, sums ===== -/
theorem m_isNight {sc : Int32 × (Int32 → Int32)} {f : zF} {a : zA} {j : zJ} {d w t : Nat} {σ : Nat → Nat} (hR : MR σ a) (hV : VR σ) (hw : w ≤ 1010) (ht : t ≤ 2000) : cf sc (d + 1) 123 [.ref 85, .int (nI w), .int (nI t)] f a j = some (some (.int (zb (ngB (w * σ 1 + t) = true))), f, a, j) := by
  have h97 := hV.2.1
  have hm : w * σ 1 ≤ 1010 * 97 := Nat.mul_le_mul hw h97
  have ix1 : zIx 21 86 (nI 1) := ix86 (by omega)
  have e1 := hR 1 (by omega)
  have h24 : nI 24 ≠ 0 := by decide
  have er : nI (w * σ 1 + t) - nI (w * σ 1 + t) / nI 24 * nI 24 = nI ((w * σ 1 + t) % 24) := pk_rem (by omega) (by omega) (by omega)
  have hC24 : (w * σ 1 + t) % 24 < 24 := Nat.mod_lt _ (by omega)
  rw [en123]
  unfold ngB
  generalize (w * σ 1 + t) % 24 = C at er hC24 ⊢
  by_cases n1 : 18 ≤ C
  · have k1 : nI 18 ≤ nI C := nI_le n1 (by omega)
    rw [zb_t (show decide (18 ≤ C ∨ C < 6) = true from decide_eq_true (Or.inl n1))]
    simp only [q123_0, q123_1, q123_2, q123_5, q123_6, q123_7, q123_8, q123_9, q123_10, q123_12, q123_13, q123_14, q123_15, q123_17, q123_20, q123_21, q123_22, q123_25, q123_26, q123_29, q123_30, ix1, e1, pk_mul, h24, ne_eq, er, k1, zCall_some, Option.toList, List.cons_append, List.nil_append, zb_0, zb_1, zem, z01, z11, nI_add, ↓reduceIte, not_true_eq_false, not_false_eq_true, n0T, n1F, n11T, true_or, or_true, false_or]
  · have k1 : ¬ nI 18 ≤ nI C := nI_ge (by omega) (by omega)
    by_cases n2 : C < 6
    · have k2 : ¬ nI 5 < nI C := nI_nlt (by omega) (by omega)
      rw [zb_t (show decide (18 ≤ C ∨ C < 6) = true from decide_eq_true (Or.inr n2))]
      simp only [q123_0, q123_1, q123_2, q123_5, q123_6, q123_7, q123_8, q123_9, q123_10, q123_12, q123_13, q123_14, q123_15, q123_17, q123_20, q123_21, q123_22, q123_25, q123_26, q123_29, q123_30, ix1, e1, pk_mul, h24, ne_eq, er, k1, k2, zCall_some, Option.toList, List.cons_append, List.nil_append, zb_0, zb_1, zem, z01, z11, nI_add, ↓reduceIte, not_true_eq_false, not_false_eq_true, n0T, n1F, n11T, true_or, or_true, false_or]
    · have k2 : nI 5 < nI C := nI_lt (by omega) (by omega)
      rw [zb_f (show ¬ decide (18 ≤ C ∨ C < 6) = true from fun q => by have := of_decide_eq_true q; omega)]
      simp only [q123_0, q123_1, q123_2, q123_5, q123_6, q123_7, q123_8, q123_9, q123_10, q123_12, q123_13, q123_14, q123_15, q123_17, q123_20, q123_21, q123_22, q123_25, q123_26, q123_29, q123_30, ix1, e1, pk_mul, h24, ne_eq, er, k1, k2, zCall_some, Option.toList, List.cons_append, List.nil_append, zb_0, zb_1, zem, z01, z11, nI_add, ↓reduceIte, not_true_eq_false, not_false_eq_true, n0T, n1F, n11T, true_or, or_true, false_or]
theorem bg_1 {sc : Int32 × (Int32 → Int32)} {F : zCF} {f : zF} {a : zA} {j : zJ} {v1 v2 v4 v5 : Value} : ∃ a' : zA, rn sc F 124 4 [.ref 85, v1, v2, .int (nI 0), v4, v5] [] f a j = rn sc F 124 31 [.ref 85, v1, v2, .int (nI 8), v4, v5] [] f a' j ∧ (∀ q, q < 8 → a' 94 (nI q) = -5 ∧ a' 95 (nI q) = nI 0) ∧ ∀ k, k ≠ 94 → k ≠ 95 → a' k = a k := by
  have key := zLoopP (n := 8) (g := fun s : (Nat × zA) => rn sc F 124 4 [.ref 85, v1, v2, .int (nI s.1), v4, v5] [] f s.2 j) (P := fun i s => s.1 = i ∧ (∀ q, q < i → s.2 94 (nI q) = -5 ∧ s.2 95 (nI q) = nI 0) ∧ ∀ k, k ≠ 94 → k ≠ 95 → s.2 k = a k) (by
    intro i s hi hP
    obtain ⟨i', a1⟩ := s
    obtain ⟨rfl, g1, g2⟩ := hP
    dsimp only at g1 g2 hi
    have c1 : ¬ nI 8 ≤ nI i' := nI_ge hi (by omega)
    have ix1 : zIx 21 94 (nI i') := ix94 hi
    have ix2 : zIx 21 95 (nI i') := ix95 hi
    refine ⟨(i' + 1, zuA (zuA a1 95 (nI i') (nI 0)) 94 (nI i') (-5)), ⟨rfl, fun q hq => ?_, fun k k1 k2 => ?_⟩, ?_⟩
    · dsimp only
      by_cases e : q = i'
      · rw [e]
        exact ⟨zuA_eq, by rw [zuA_nk (by omega)]; exact zuA_eq⟩
      · have e9 : nI q ≠ nI i' := nI_ne (by omega) (by omega) e
        rw [zuA_ni e9, zuA_ni e9, zuA_ni e9, zuA_ni e9]; exact g1 q (by omega)
    · dsimp only
      rw [zuA_nk k1, zuA_nk k2]; exact g2 k k1 k2
    · dsimp only
      rw [q124_4]
      simp only [q124_5, q124_7, q124_10, q124_11, q124_14, q124_15, q124_16, q124_17, q124_18, q124_21, q124_22, q124_24, q124_25, q124_28, c1, ix1, ix2, zCall_some, Option.toList, List.cons_append, List.nil_append, zb_0, zb_1, zem, z01, z11, nI_add, ↓reduceIte, not_true_eq_false, not_false_eq_true, n0T, n1F, n11T, true_or, or_true, false_or]) (0, a) ⟨rfl, fun q hq => by omega, fun _ _ _ => rfl⟩
  obtain ⟨⟨i, a1⟩, ⟨hi, g1, g2⟩, e⟩ := key
  dsimp only at g1 g2 hi e
  rw [hi] at e
  refine ⟨a1, ?_, g1, g2⟩
  have c1 : nI 8 ≤ nI 8 := nI_le (Nat.le_refl _) (by omega)
  refine Eq.trans (show _ = _ from e) ?_
  simp only [q124_4, q124_5, q124_7, c1, zCall_some, Option.toList, List.cons_append, List.nil_append, zb_0, zb_1, zem, z01, z11, nI_add, ↓reduceIte, not_true_eq_false, not_false_eq_true, n0T, n1F, n11T, true_or, or_true, false_or]
theorem bg_in {sc : Int32 × (Int32 → Int32)} {d : Nat} {f : zF} {a : zA} {j : zJ} {w St H G : Nat} {σ : Nat → Nat} {v3 : Value} (hR : MR σ a) (hV : VR σ) (hw : w ≤ 1010) (hSt : St ≤ 1100) (hH : H ≤ 97) (hG : G < 8) (hh : a 93 (nI G) = nI H) (h0 : a 95 (nI G) = nI 0) :
    ∃ a' : zA, rn sc (cf sc (d + 1)) 124 69 [.ref 85, .int (nI w), .int (nI St), v3, .int (nI G), .int (nI 0)] [] f a j = rn sc (cf sc (d + 1)) 124 110 [.ref 85, .int (nI w), .int (nI St), v3, .int (nI G), .int (nI H)] [] f a' j ∧ a' 95 (nI G) = nI (ngC (w * σ 1 + St) H) ∧ (∀ k, k ≠ 95 → a' k = a k) ∧ ∀ x, x ≠ nI G → a' 95 x = a 95 x := by
  have key := zLoopP (n := H) (g := fun s : (Nat × zA) => rn sc (cf sc (d + 1)) 124 69 [.ref 85, .int (nI w), .int (nI St), v3, .int (nI G), .int (nI s.1)] [] f s.2 j) (P := fun i s => s.1 = i ∧ s.2 95 (nI G) = nI (ngC (w * σ 1 + St) i) ∧ (∀ k, k ≠ 95 → s.2 k = a k) ∧ ∀ x, x ≠ nI G → s.2 95 x = a 95 x) (by
    intro t s ht hP
    obtain ⟨t', a1⟩ := s
    obtain ⟨rfl, g1, g2, g3⟩ := hP
    dsimp only at g1 g2 g3 ht
    have hR1 : MR σ a1 := hR.of (g2 86 (by omega))
    have c1 : ¬ nI H ≤ nI t' := nI_ge ht (by omega)
    have i93 : zIx 21 93 (nI G) := ix93 hG
    have i95 : zIx 21 95 (nI G) := ix95 hG
    have e93 : a1 93 (nI G) = nI H := by rw [g2 93 (by omega)]; exact hh
    have hN := m_isNight (sc := sc) (d := d) (f := f) (j := j) (t := St + t') hR1 hV hw (by omega)
    by_cases hn : ngB (w * σ 1 + (St + t')) = true
    · refine ⟨(t' + 1, zuA a1 95 (nI G) (nI (ngC (w * σ 1 + St) t' + 1))), ⟨rfl, ?_, fun k hk => (zuA_nk hk).trans (g2 k hk), fun x hx => (zuA_ni hx).trans (g3 x hx)⟩, ?_⟩
      · dsimp only
        rw [zuA_eq, ngC_s, Nat.add_assoc (w * σ 1) St t', if_pos hn]
      · dsimp only
        rw [q124_69]
        simp only [q124_0, q124_1, q124_2, q124_3, q124_4, q124_5, q124_7, q124_10, q124_11, q124_14, q124_15, q124_16, q124_17, q124_18, q124_21, q124_22, q124_24, q124_25, q124_28, q124_31, q124_32, q124_33, q124_34, q124_35, q124_38, q124_41, q124_42, q124_45, q124_46, q124_47, q124_49, q124_50, q124_51, q124_54, q124_55, q124_56, q124_57, q124_58, q124_59, q124_62, q124_64, q124_65, q124_66, q124_67, q124_71, q124_72, q124_75, q124_77, q124_78, q124_81, q124_82, q124_83, q124_84, q124_86, q124_87, q124_90, q124_93, q124_94, q124_97, q124_99, q124_100, q124_101, q124_102, q124_103, q124_104, q124_107, q124_111, q124_112, q124_115, q124_117, q124_118, q124_119, q124_120, q124_123, q124_126, i93, e93, c1, hN, eq_true hn, i95, g1, zCall_some, Option.toList, List.cons_append, List.nil_append, zb_0, zb_1, zem, z01, z11, nI_add, ↓reduceIte, not_true_eq_false, not_false_eq_true, n0T, n1F, n11T, true_or, or_true, false_or]
    · refine ⟨(t' + 1, a1), ⟨rfl, ?_, g2, g3⟩, ?_⟩
      · dsimp only
        rw [ngC_s, Nat.add_assoc (w * σ 1) St t', if_neg hn]
        exact g1
      · dsimp only
        rw [q124_69]
        simp only [q124_0, q124_1, q124_2, q124_3, q124_4, q124_5, q124_7, q124_10, q124_11, q124_14, q124_15, q124_16, q124_17, q124_18, q124_21, q124_22, q124_24, q124_25, q124_28, q124_31, q124_32, q124_33, q124_34, q124_35, q124_38, q124_41, q124_42, q124_45, q124_46, q124_47, q124_49, q124_50, q124_51, q124_54, q124_55, q124_56, q124_57, q124_58, q124_59, q124_62, q124_64, q124_65, q124_66, q124_67, q124_71, q124_72, q124_75, q124_77, q124_78, q124_81, q124_82, q124_83, q124_84, q124_86, q124_87, q124_90, q124_93, q124_94, q124_97, q124_99, q124_100, q124_101, q124_102, q124_103, q124_104, q124_107, q124_111, q124_112, q124_115, q124_117, q124_118, q124_119, q124_120, q124_123, q124_126, i93, e93, c1, hN, eq_false hn, zCall_some, Option.toList, List.cons_append, List.nil_append, zb_0, zb_1, zem, z01, z11, nI_add, ↓reduceIte, not_true_eq_false, not_false_eq_true, n0T, n1F, n11T, true_or, or_true, false_or]) (0, a) ⟨rfl, h0, fun _ _ => rfl, fun _ _ => rfl⟩
  obtain ⟨⟨t, a1⟩, ⟨ht, g1, g2, g3⟩, e⟩ := key
  dsimp only at g1 g2 g3 ht e
  rw [ht] at e
  refine ⟨a1, ?_, g1, g2, g3⟩
  have i93 : zIx 21 93 (nI G) := ix93 hG
  have e93 : a1 93 (nI G) = nI H := by rw [g2 93 (by omega)]; exact hh
  have c1 : nI H ≤ nI H := nI_le (Nat.le_refl _) (by omega)
  refine Eq.trans (show _ = _ from e) ?_
  simp only [q124_69, q124_71, q124_72, q124_75, q124_77, q124_78, i93, e93, c1, zCall_some, Option.toList, List.cons_append, List.nil_append, zb_0, zb_1, zem, z01, z11, nI_add, ↓reduceIte, not_true_eq_false, not_false_eq_true, n0T, n1F, n11T, true_or, or_true, false_or]
theorem m_begin {sc : Int32 × (Int32 → Int32)} {f : zF} {a : zA} {j : zJ} {d w : Nat} {σ : Nat → Nat} {tr : Bool} (hR : MR σ a) (hV : VR σ) (hw : w ≤ 1010) (hTr : tr = true → TrOK σ w) (hK : TkR σ w f a) (hA : ∀ g, g < σ 0 → a 93 (nI g) = nI (hvOf σ w tr g)) :
    ∃ a' : zA, cf sc (d + 2) 124 [.ref 85, .int (nI w)] f a j = some (none, f, a', j) ∧ (∀ g, g < σ 0 → a' 94 (nI g) = begF σ w tr g ∧ a' 95 (nI g) = nI (ngF σ w tr g)) ∧ ∀ k, k ≠ 94 → k ≠ 95 → a' k = a k := by
  have hn := hV.1
  have hlen := oL_le hV w
  have hnd : (oL σ w).Nodup := oS_nd hV w _ (Nat.le_refl _)
  obtain ⟨k1, k2, k3, k4, k5, k6, k7⟩ := hK
  obtain ⟨a1, s1, s2, s3⟩ := bg_1 (sc := sc) (F := cf sc (d + 1)) (f := f) (a := a) (j := j) (v1 := .int (nI w)) (v2 := .int (nI 0)) (v4 := .null) (v5 := .null)
  have key := zLoopP (n := (oL σ w).length) (g := fun s : (Nat × Value × Value × zA) => rn sc (cf sc (d + 1)) 124 33 [.ref 85, .int (nI w), .int (nI (tmS σ (oL σ w) (hvOf σ w tr) s.1)), .int (nI s.1), s.2.1, s.2.2.1] [] f s.2.2.2 j) (P := fun k s => s.1 = k ∧ (∀ q, q < k → s.2.2.2 94 (nI ((oL σ w).getD q 0)) = nI (stN σ w tr q) ∧ s.2.2.2 95 (nI ((oL σ w).getD q 0)) = nI (ngC (w * σ 1 + stN σ w tr q) (hvOf σ w tr ((oL σ w).getD q 0)))) ∧ (∀ g, g < 8 → (∀ q, q < k → (oL σ w).getD q 0 ≠ g) → s.2.2.2 94 (nI g) = -5 ∧ s.2.2.2 95 (nI g) = nI 0) ∧ ∀ k, k ≠ 94 → k ≠ 95 → s.2.2.2 k = a k) (by
    intro k s hk hP
    obtain ⟨k', v4, v5, a2⟩ := s
    obtain ⟨rfl, g1, g2, g3⟩ := hP
    dsimp only at g1 g2 g3 hk
    have hG := oL_lt hV hk
    have hR2 : MR σ a2 := hR.of (g3 86 (by omega) (by omega))
    have c1 : ¬ nI (oL σ w).length ≤ nI k' := nI_ge hk (by omega)
    have i90 : zIx 21 90 (nI k') := ix90 (by omega)
    have i91 : zIx 21 91 (nI k') := ix91 (by omega)
    have i94 : zIx 21 94 (nI ((oL σ w).getD k' 0)) := ix94 (by omega)
    have i93 : zIx 21 93 (nI ((oL σ w).getD k' 0)) := ix93 (by omega)
    have e90 : a2 90 (nI k') = nI ((oL σ w).getD k' 0) := by rw [g3 90 (by omega) (by omega)]; exact k5 k' hk
    have e91 : a2 91 (nI k') = nI (lgA σ (oL σ w) k') := by rw [g3 91 (by omega) (by omega)]; exact k6 k' hk
    have e93 : a2 93 (nI ((oL σ w).getD k' 0)) = nI (hvOf σ w tr ((oL σ w).getD k' 0)) := by rw [g3 93 (by omega) (by omega)]; exact hA _ hG
    have hst := st_le hV hTr hk
    have hhv := hv_97 hV hTr hG
    have hne : ∀ q, q < k' → (oL σ w).getD q 0 ≠ (oL σ w).getD k' 0 := fun q hq e => by have := getD_inj hnd (by omega) hk e; omega
    obtain ⟨z1, z2⟩ := g2 _ (show (oL σ w).getD k' 0 < 8 by omega) hne
    obtain ⟨a3, r1, r2, r3, r4⟩ := bg_in (sc := sc) (d := d) (f := f) (a := zuA a2 94 (nI ((oL σ w).getD k' 0)) (nI (stN σ w tr k'))) (j := j) (w := w) (St := stN σ w tr k') (H := hvOf σ w tr ((oL σ w).getD k' 0)) (G := (oL σ w).getD k' 0) (v3 := .int (nI k')) (hR2.of (zuA_nk (by omega))) hV hw hst hhv (by omega) (by rw [zuA_nk (by omega)]; exact e93) (by rw [zuA_nk (by omega)]; exact z2)
    refine ⟨(k' + 1, .int (nI ((oL σ w).getD k' 0)), .int (nI (hvOf σ w tr ((oL σ w).getD k' 0))), a3), ⟨rfl, fun q hq => ?_, fun g hg hno => ?_, fun k q1 q2 => ?_⟩, ?_⟩
    · dsimp only
      by_cases e : q = k'
      · rw [e, r3 94 (by omega), zuA_eq, r2]
        exact ⟨rfl, rfl⟩
      · have e9 : nI ((oL σ w).getD q 0) ≠ nI ((oL σ w).getD k' 0) := nI_ne (by have := oL_lt hV (w := w) (i := q) (by omega); omega) (by omega) (hne q (by omega))
        rw [r3 94 (by omega), zuA_ni e9, r4 _ e9, zuA_nk (by omega)]
        exact g1 q (by omega)
    · dsimp only
      have e9 : nI g ≠ nI ((oL σ w).getD k' 0) := nI_ne (by omega) (by omega) (fun e => hno k' (by omega) e.symm)
      rw [r3 94 (by omega), zuA_ni e9, r4 _ e9, zuA_nk (by omega)]
      exact g2 g hg (fun q hq => hno q (by omega))
    · dsimp only
      rw [r3 k q2, zuA_nk q1]; exact g3 k q1 q2
    · dsimp only
      have e3 : a3 93 (nI ((oL σ w).getD k' 0)) = nI (hvOf σ w tr ((oL σ w).getD k' 0)) := by rw [r3 93 (by omega), zuA_nk (by omega)]; exact e93
      have est : tmS σ (oL σ w) (hvOf σ w tr) k' + lgA σ (oL σ w) k' = stN σ w tr k' := rfl
      rw [q124_33, tmS_s, est]
      simp only [q124_0, q124_1, q124_2, q124_3, q124_4, q124_5, q124_7, q124_10, q124_11, q124_14, q124_15, q124_16, q124_17, q124_18, q124_21, q124_22, q124_24, q124_25, q124_28, q124_31, q124_32, q124_34, q124_35, q124_38, q124_41, q124_42, q124_45, q124_46, q124_47, q124_49, q124_50, q124_51, q124_54, q124_55, q124_56, q124_57, q124_58, q124_59, q124_62, q124_64, q124_65, q124_66, q124_67, q124_71, q124_72, q124_75, q124_77, q124_78, q124_81, q124_82, q124_83, q124_84, q124_86, q124_87, q124_90, q124_93, q124_94, q124_97, q124_99, q124_100, q124_101, q124_102, q124_103, q124_104, q124_107, k1, c1, i90, i91, i94, e90, e91, est, zCall_some, Option.toList, List.cons_append, List.nil_append, zb_0, zb_1, zem, z01, z11, nI_add, ↓reduceIte, not_true_eq_false, not_false_eq_true, n0T, n1F, n11T, true_or, or_true, false_or]
      refine Eq.trans (show _ = _ from r1) ?_
      simp only [q124_0, q124_1, q124_2, q124_3, q124_4, q124_5, q124_7, q124_10, q124_11, q124_14, q124_15, q124_16, q124_17, q124_18, q124_21, q124_22, q124_24, q124_25, q124_28, q124_31, q124_32, q124_34, q124_35, q124_38, q124_41, q124_42, q124_45, q124_46, q124_47, q124_49, q124_50, q124_51, q124_54, q124_55, q124_56, q124_57, q124_58, q124_59, q124_62, q124_64, q124_65, q124_66, q124_67, q124_71, q124_72, q124_75, q124_77, q124_78, q124_81, q124_82, q124_83, q124_84, q124_86, q124_87, q124_90, q124_93, q124_94, q124_97, q124_99, q124_100, q124_101, q124_102, q124_103, q124_104, q124_107, q124_110, q124_111, q124_112, q124_115, q124_117, q124_118, q124_119, q124_120, q124_123, q124_126, i93, e3, zCall_some, Option.toList, List.cons_append, List.nil_append, zb_0, zb_1, zem, z01, z11, nI_add, ↓reduceIte, not_true_eq_false, not_false_eq_true, n0T, n1F, n11T, true_or, or_true, false_or]) (0, .null, .null, a1) ⟨rfl, fun q hq => by omega, fun g hg _ => s2 g hg, s3⟩
  obtain ⟨⟨k, v4, v5, a2⟩, ⟨hk, g1, g2, g3⟩, e⟩ := key
  dsimp only at g1 g2 g3 hk e
  rw [hk] at e
  refine ⟨a2, ?_, fun g hg => ?_, g3⟩
  · have c1 : nI (oL σ w).length ≤ nI (oL σ w).length := nI_le (Nat.le_refl _) (by omega)
    rw [en124]
    simp only [q124_0, q124_1, q124_2, q124_3]
    refine Eq.trans (show _ = _ from s1) ?_
    simp only [q124_31, q124_32]
    refine Eq.trans (show _ = _ from e) ?_
    simp only [q124_33, q124_34, q124_35, q124_38, q124_126, k1, c1, zCall_some, Option.toList, List.cons_append, List.nil_append, zb_0, zb_1, zem, z01, z11, nI_add, ↓reduceIte, not_true_eq_false, not_false_eq_true, n0T, n1F, n11T, true_or, or_true, false_or]
  · unfold begF ngF
    rcases pl_cases hV w g with ⟨i, h1, h2, h3⟩ | ⟨h1, h3⟩
    · obtain ⟨x1, x2⟩ := g1 i h1
      rw [h2] at x1 x2
      have hi : i < 2 ^ 31 := by omega
      rw [ix_of hi h3, h3, if_neg (nI_n5 hi), if_neg (nI_n5 hi)]
      exact ⟨x1, x2⟩
    · rw [h3, if_pos rfl, if_pos rfl]
      exact g2 g (by omega) (fun q hq e => h1 (by rw [← e]; exact getD_mem hq))
/-- a WEEK is worked out -/
def TeO (σ : Nat → Nat) (w : Nat) (tr : Bool) (f : zF) (a : zA) : Prop := TkR σ w f a ∧ (∀ g, g < σ 0 → a 93 (nI g) = nI (hvOf σ w tr g)) ∧ ∀ g, g < σ 0 → a 94 (nI g) = begF σ w tr g ∧ a 95 (nI g) = nI (ngF σ w tr g)
/-- a WEEK's cells alone have changed -/
def MF (f f' : zF) (a a' : zA) : Prop := (∀ k, k ≠ 85 → f' k = f k) ∧ (∀ i, i ≠ 12 → i ≠ 13 → i ≠ 14 → f' 85 i = f 85 i) ∧ ∀ k, (k < 89 ∨ 97 < k) → a' k = a k
theorem MF.w {f f' : zF} {a a' : zA} (h : MF f f' a a') : MFW f f' a a' := ⟨h.1, h.2.1, fun k hk => h.2.2 k (by omega)⟩
theorem MF.r {σ : Nat → Nat} {f f' : zF} {a a' : zA} (h : MF f f' a a') (hR : MR σ a) : MR σ a' := hR.of (h.2.2 86 (by omega))
theorem m_tells {sc : Int32 × (Int32 → Int32)} {f : zF} {a : zA} {j : zJ} {d w : Nat} {σ : Nat → Nat} {tr : Bool} (hR : MR σ a) (hV : VR σ) (hw : w ≤ 1010) (hr : σ 2 ≤ 3) (hT : tr = true → TrOK σ w) :
    ∃ (f' : zF) (a' : zA), cf sc (d + 5) 125 [.ref 85, .int (nI w), .int (nI (if tr = true then 1 else 0))] f a j = some (none, f', a', j) ∧ TeO σ w tr f' a' ∧ MF f f' a a' := by
  obtain ⟨f1, a1, s1, s2, s3, s4, s5⟩ := m_takeTurns (sc := sc) (d := d + 2) (f := f) (j := j) hR hV hw hr
  have hR1 : MR σ a1 := hR.of (s3 86 (by omega))
  obtain ⟨a2, t1, t2, t3⟩ := m_haveAll (sc := sc) (d := d) (f := f1) (j := j) hR1 hV s2.2.2.1 hT
  have hR2 : MR σ a2 := hR1.of (t3 86 (by omega) (by omega) (by omega))
  have hK2 : TkR σ w f1 a2 := by
    obtain ⟨k1, k2, k3, k4, k5, k6, k7⟩ := s2
    refine ⟨k1, k2, k3, zLst_of k4 (t3 89 (by omega) (by omega) (by omega)), zLst_of k5 (t3 90 (by omega) (by omega) (by omega)), fun i hi => ?_, fun g hg => ?_⟩
    · rw [t3 91 (by omega) (by omega) (by omega)]; exact k6 i hi
    · rw [t3 92 (by omega) (by omega) (by omega)]; exact k7 g hg
  obtain ⟨a3, u1, u2, u3⟩ := m_begin (sc := sc) (d := d + 2) (f := f1) (j := j) hR2 hV hw hT hK2 t2
  have hK3 : TkR σ w f1 a3 := by
    obtain ⟨k1, k2, k3, k4, k5, k6, k7⟩ := hK2
    refine ⟨k1, k2, k3, zLst_of k4 (u3 89 (by omega) (by omega)), zLst_of k5 (u3 90 (by omega) (by omega)), fun i hi => ?_, fun g hg => ?_⟩
    · rw [u3 91 (by omega) (by omega)]; exact k6 i hi
    · rw [u3 92 (by omega) (by omega)]; exact k7 g hg
  refine ⟨f1, a3, ?_, ⟨hK3, fun g hg => by rw [u3 93 (by omega) (by omega)]; exact t2 g hg, u2⟩, ⟨s4, s5, fun k hk => by rw [u3 k (by omega) (by omega), t3 k (by omega) (by omega) (by omega), s3 k (by omega)]⟩⟩
  rw [en125]
  simp only [q125_0, q125_1, q125_2, q125_5, q125_6, q125_7, q125_10, q125_11, q125_12, q125_15, s1, t1, u1, zCall_some, Option.toList, List.cons_append, List.nil_append, zb_0, zb_1, zem, z01, z11, nI_add, ↓reduceIte, not_true_eq_false, not_false_eq_true, n0T, n1F, n11T, true_or, or_true, false_or]
theorem m_tellsF {sc : Int32 × (Int32 → Int32)} {f : zF} {a : zA} {j : zJ} {d w : Nat} {σ : Nat → Nat} (hR : MR σ a) (hV : VR σ) (hw : w ≤ 1010) (hr : σ 2 ≤ 3) :
    ∃ (f' : zF) (a' : zA), cf sc (d + 5) 125 [.ref 85, .int (nI w), .int (nI 0)] f a j = some (none, f', a', j) ∧ TeO σ w false f' a' ∧ MF f f' a a' := m_tells (tr := false) hR hV hw hr (fun q => by cases q)
theorem m_now {sc : Int32 × (Int32 → Int32)} {f : zF} {a : zA} {j : zJ} {d : Nat} {σ : Nat → Nat} (hR : MR σ a) (hV : VS σ) : ∃ (f' : zF) (a' : zA), cf sc (d + 6) 126 [.ref 85] f a j = some (none, f', a', j) ∧ TeO σ (σ 3) true f' a' ∧ MF f f' a a' := by
  have h9 := hV.1.2.2.2.2
  obtain ⟨f1, a1, s1, s2, s3⟩ := m_tells (sc := sc) (d := d) (f := f) (j := j) (w := σ 3) (tr := true) hR hV.1.1 (by omega) hV.1.2.2.2.1 (fun _ => hV.2.1)
  rw [if_pos rfl] at s1
  refine ⟨f1, a1, ?_, s2, s3⟩
  have ix3 : zIx 21 86 (nI 3) := ix86 (by omega)
  have e3 := hR 3 (by omega)
  rw [en126]
  simp only [q126_0, q126_1, q126_2, q126_5, q126_6, q126_7, q126_8, q126_11, ix3, e3, s1, zCall_some, Option.toList, List.cons_append, List.nil_append, zb_0, zb_1, zem, z01, z11, nI_add, ↓reduceIte, not_true_eq_false, not_false_eq_true, n0T, n1F, n11T, true_or, or_true, false_or]
theorem kpF_le (σ : Nat → Nat) : ∀ r, kpF σ r ≤ 100
  | 0 => Nat.le_refl _
  | r + 1 => by
    have := kpF_le σ r
    rw [kpF_s]
    omega
theorem m_water {sc : Int32 × (Int32 → Int32)} {f : zF} {a : zA} {j : zJ} {d w g : Nat} {σ : Nat → Nat} {tr : Bool} (hR : MR σ a) (hV : VR σ) (hA : ∀ g, g < σ 0 → a 93 (nI g) = nI (hvOf σ w tr g)) (hg : g < σ 0) : cf sc (d + 1) 127 [.ref 85, .int (nI g)] f a j = some (some (.int (nI (waF σ w tr g))), f, a, j) := by
  have hn := hV.1
  have h4 := (hV.2.2.1 g hg).1
  have ix16 : zIx 21 86 (nI (16 + g)) := ix86 (by omega)
  have e16 := hR (16 + g) (by omega)
  have i93 : zIx 21 93 (nI g) := ix93 (by omega)
  have key := zLoop (n := σ (16 + g) + 1) (g := fun r => rn sc (cf sc d) 127 4 [.ref 85, .int (nI g), .int (nI (100 - kpF σ r)), .int (nI r)] [] f a j) (by
    intro r hr
    have c1 : ¬ nI (σ (16 + g)) < nI r := nI_nlt (by omega) (by omega)
    have ix12 : zIx 21 86 (nI (12 + r)) := ix86 (by omega)
    have e12 := hR (12 + r) (by omega)
    have hk := kpF_ge hV r (by omega)
    have hk2 := kpF_le σ r
    have hl := (hV.2.2.2 r (by omega)).2
    have e : 100 - (kpF σ r - σ (12 + r)) = 100 - kpF σ r + σ (12 + r) := by omega
    rw [q127_4, kpF_s, e]
    simp only [q127_0, q127_1, q127_2, q127_3, q127_5, q127_6, q127_9, q127_11, q127_12, q127_13, q127_14, q127_17, q127_18, q127_19, q127_22, q127_24, q127_25, q127_26, q127_27, q127_28, q127_29, q127_32, q127_35, q127_36, q127_39, q127_40, q127_41, q127_43, q127_44, q127_45, q127_46, ix16, e16, c1, ix12, e12, zCall_some, Option.toList, List.cons_append, List.nil_append, zb_0, zb_1, zem, z01, z11, nI_add, ↓reduceIte, not_true_eq_false, not_false_eq_true, n0T, n1F, n11T, true_or, or_true, false_or])
  have c1 : nI (σ (16 + g)) < nI (σ (16 + g) + 1) := nI_lt (by omega) (by omega)
  have hk2 := kpF_le σ (σ (16 + g) + 1)
  have es : nI 100 - nI (100 - kpF σ (σ (16 + g) + 1)) = nI (kpF σ (σ (16 + g) + 1)) := by
    rw [pk_sub (by omega)]
    congr 1
    omega
  rw [en127, q127_0, q127_1, q127_2, q127_3]
  refine Eq.trans (show _ = _ from key) ?_
  simp only [q127_0, q127_1, q127_2, q127_3, q127_4, q127_5, q127_6, q127_9, q127_11, q127_12, q127_13, q127_14, q127_17, q127_18, q127_19, q127_22, q127_24, q127_25, q127_26, q127_27, q127_28, q127_29, q127_32, q127_35, q127_36, q127_39, q127_40, q127_41, q127_43, q127_44, q127_45, q127_46, ix16, e16, c1, i93, hA g hg, es, pk_mul, zCall_some, Option.toList, List.cons_append, List.nil_append, zb_0, zb_1, zem, z01, z11, nI_add, ↓reduceIte, not_true_eq_false, not_false_eq_true, n0T, n1F, n11T, true_or, or_true, false_or]
  rfl
theorem m_waterAll {sc : Int32 × (Int32 → Int32)} {f : zF} {a : zA} {j : zJ} {d w : Nat} {σ : Nat → Nat} {tr : Bool} (hR : MR σ a) (hV : VR σ) (hA : ∀ g, g < σ 0 → a 93 (nI g) = nI (hvOf σ w tr g)) : cf sc (d + 2) 128 [.ref 85] f a j = some (some (.int (nI (sumF (waF σ w tr) (σ 0)))), f, a, j) := by
  have hn := hV.1
  have ix0 : zIx 21 86 (nI 0) := ix86 (by omega)
  have e0 := hR 0 (by omega)
  have key := zLoop (n := σ 0) (g := fun i => rn sc (cf sc (d + 1)) 128 4 [.ref 85, .int (nI (sumF (waF σ w tr) i)), .int (nI i)] [] f a j) (by
    intro i hi
    have c1 : ¬ nI (σ 0) ≤ nI i := nI_ge hi (by omega)
    have hW := m_water (sc := sc) (d := d) (f := f) (j := j) hR hV hA hi
    rw [q128_4, sumF_s]
    simp only [q128_0, q128_1, q128_2, q128_3, q128_5, q128_6, q128_9, q128_10, q128_11, q128_14, q128_15, q128_16, q128_17, q128_20, q128_21, q128_22, q128_25, q128_28, q128_29, ix0, e0, c1, hW, zCall_some, Option.toList, List.cons_append, List.nil_append, zb_0, zb_1, zem, z01, z11, nI_add, ↓reduceIte, not_true_eq_false, not_false_eq_true, n0T, n1F, n11T, true_or, or_true, false_or])
  have c1 : nI (σ 0) ≤ nI (σ 0) := nI_le (Nat.le_refl _) (by omega)
  rw [en128, q128_0, q128_1, q128_2, q128_3]
  refine Eq.trans (show _ = _ from key) ?_
  simp only [q128_4, q128_5, q128_6, q128_9, q128_10, q128_11, q128_28, q128_29, ix0, e0, c1, zCall_some, Option.toList, List.cons_append, List.nil_append, zb_0, zb_1, zem, z01, z11, nI_add, ↓reduceIte, not_true_eq_false, not_false_eq_true, n0T, n1F, n11T, true_or, or_true, false_or]
theorem m_nightsAll {sc : Int32 × (Int32 → Int32)} {f : zF} {a : zA} {j : zJ} {d w : Nat} {σ : Nat → Nat} {tr : Bool} (hR : MR σ a) (hV : VR σ) (hA : ∀ g, g < σ 0 → a 95 (nI g) = nI (ngF σ w tr g)) : cf sc (d + 1) 129 [.ref 85] f a j = some (some (.int (nI (sumF (ngF σ w tr) (σ 0)))), f, a, j) := by
  have hn := hV.1
  have ix0 : zIx 21 86 (nI 0) := ix86 (by omega)
  have e0 := hR 0 (by omega)
  have key := zLoop (n := σ 0) (g := fun i => rn sc (cf sc d) 129 4 [.ref 85, .int (nI (sumF (ngF σ w tr) i)), .int (nI i)] [] f a j) (by
    intro i hi
    have c1 : ¬ nI (σ 0) ≤ nI i := nI_ge hi (by omega)
    have i95 : zIx 21 95 (nI i) := ix95 (by omega)
    rw [q129_4, sumF_s]
    simp only [q129_0, q129_1, q129_2, q129_3, q129_5, q129_6, q129_9, q129_10, q129_11, q129_14, q129_15, q129_16, q129_19, q129_20, q129_21, q129_22, q129_23, q129_26, q129_29, q129_30, ix0, e0, c1, i95, hA i hi, zCall_some, Option.toList, List.cons_append, List.nil_append, zb_0, zb_1, zem, z01, z11, nI_add, ↓reduceIte, not_true_eq_false, not_false_eq_true, n0T, n1F, n11T, true_or, or_true, false_or])
  have c1 : nI (σ 0) ≤ nI (σ 0) := nI_le (Nat.le_refl _) (by omega)
  rw [en129, q129_0, q129_1, q129_2, q129_3]
  refine Eq.trans (show _ = _ from key) ?_
  simp only [q129_4, q129_5, q129_6, q129_9, q129_10, q129_11, q129_29, q129_30, ix0, e0, c1, zCall_some, Option.toList, List.cons_append, List.nil_append, zb_0, zb_1, zem, z01, z11, nI_add, ↓reduceIte, not_true_eq_false, not_false_eq_true, n0T, n1F, n11T, true_or, or_true, false_or]
theorem m_hasAll {sc : Int32 × (Int32 → Int32)} {f : zF} {a : zA} {j : zJ} {d w : Nat} {σ : Nat → Nat} {tr : Bool} (hR : MR σ a) (hV : VR σ) (hA : ∀ g, g < σ 0 → a 93 (nI g) = nI (hvOf σ w tr g)) : cf sc (d + 1) 130 [.ref 85] f a j = some (some (.int (nI (sumF (hvOf σ w tr) (σ 0)))), f, a, j) := by
  have hn := hV.1
  have ix0 : zIx 21 86 (nI 0) := ix86 (by omega)
  have e0 := hR 0 (by omega)
  have key := zLoop (n := σ 0) (g := fun i => rn sc (cf sc d) 130 4 [.ref 85, .int (nI (sumF (hvOf σ w tr) i)), .int (nI i)] [] f a j) (by
    intro i hi
    have c1 : ¬ nI (σ 0) ≤ nI i := nI_ge hi (by omega)
    have i93 : zIx 21 93 (nI i) := ix93 (by omega)
    rw [q130_4, sumF_s]
    simp only [q130_0, q130_1, q130_2, q130_3, q130_5, q130_6, q130_9, q130_10, q130_11, q130_14, q130_15, q130_16, q130_19, q130_20, q130_21, q130_22, q130_23, q130_26, q130_29, q130_30, ix0, e0, c1, i93, hA i hi, zCall_some, Option.toList, List.cons_append, List.nil_append, zb_0, zb_1, zem, z01, z11, nI_add, ↓reduceIte, not_true_eq_false, not_false_eq_true, n0T, n1F, n11T, true_or, or_true, false_or])
  have c1 : nI (σ 0) ≤ nI (σ 0) := nI_le (Nat.le_refl _) (by omega)
  rw [en130, q130_0, q130_1, q130_2, q130_3]
  refine Eq.trans (show _ = _ from key) ?_
  simp only [q130_4, q130_5, q130_6, q130_9, q130_10, q130_11, q130_29, q130_30, ix0, e0, c1, zCall_some, Option.toList, List.cons_append, List.nil_append, zb_0, zb_1, zem, z01, z11, nI_add, ↓reduceIte, not_true_eq_false, not_false_eq_true, n0T, n1F, n11T, true_or, or_true, false_or]
