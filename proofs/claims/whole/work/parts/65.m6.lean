/-! ===== the reference: begin, tells, water, sums ===== -/
theorem m_isNight {sc : Int32 × (Int32 → Int32)} {f : zF} {a : zA} {j : zJ} {d w t : Nat} {σ : Nat → Nat} (hR : MR σ a) (hV : VR σ) (hw : w ≤ 1010) (ht : t ≤ 2000) : cf sc (d + 1) 129 [.ref 85, .int (nI w), .int (nI t)] f a j = some (some (.int (zb (ngB (w * σ 1 + t) = true))), f, a, j) := by
  have h97 := hV.2.1
  have hm : w * σ 1 ≤ 1010 * 97 := Nat.mul_le_mul hw h97
  have ix1 : zIx 21 86 (nI 1) := ix86 (by omega)
  have e1 := hR 1 (by omega)
  have h24 : nI 24 ≠ 0 := by decide
  have er : nI (w * σ 1 + t) - nI (w * σ 1 + t) / nI 24 * nI 24 = nI ((w * σ 1 + t) % 24) := pk_rem (by omega) (by omega) (by omega)
  have hC24 : (w * σ 1 + t) % 24 < 24 := Nat.mod_lt _ (by omega)
  rw [en129]
  unfold ngB
  generalize (w * σ 1 + t) % 24 = C at er hC24 ⊢
  by_cases n1 : 18 ≤ C
  · have k1 : nI 18 ≤ nI C := nI_le n1 (by omega)
    rw [zb_t (show decide (18 ≤ C ∨ C < 6) = true from decide_eq_true (Or.inl n1))]
    simp only [q129_0, q129_1, q129_2, q129_5, q129_6, q129_7, q129_8, q129_9, q129_10, q129_12, q129_13, q129_14, q129_15, q129_17, q129_20, q129_21, q129_22, q129_25, q129_26, q129_29, q129_30, ix1, e1, pk_mul, h24, ne_eq, er, k1, zCall_some, Option.toList, List.cons_append, List.nil_append, zb_0, zb_1, zem, z01, z11, nI_add, ↓reduceIte, not_true_eq_false, not_false_eq_true, n0T, n1F, n11T, true_or, or_true, false_or]
  · have k1 : ¬ nI 18 ≤ nI C := nI_ge (by omega) (by omega)
    by_cases n2 : C < 6
    · have k2 : ¬ nI 5 < nI C := nI_nlt (by omega) (by omega)
      rw [zb_t (show decide (18 ≤ C ∨ C < 6) = true from decide_eq_true (Or.inr n2))]
      simp only [q129_0, q129_1, q129_2, q129_5, q129_6, q129_7, q129_8, q129_9, q129_10, q129_12, q129_13, q129_14, q129_15, q129_17, q129_20, q129_21, q129_22, q129_25, q129_26, q129_29, q129_30, ix1, e1, pk_mul, h24, ne_eq, er, k1, k2, zCall_some, Option.toList, List.cons_append, List.nil_append, zb_0, zb_1, zem, z01, z11, nI_add, ↓reduceIte, not_true_eq_false, not_false_eq_true, n0T, n1F, n11T, true_or, or_true, false_or]
    · have k2 : nI 5 < nI C := nI_lt (by omega) (by omega)
      rw [zb_f (show ¬ decide (18 ≤ C ∨ C < 6) = true from fun q => by have := of_decide_eq_true q; omega)]
      simp only [q129_0, q129_1, q129_2, q129_5, q129_6, q129_7, q129_8, q129_9, q129_10, q129_12, q129_13, q129_14, q129_15, q129_17, q129_20, q129_21, q129_22, q129_25, q129_26, q129_29, q129_30, ix1, e1, pk_mul, h24, ne_eq, er, k1, k2, zCall_some, Option.toList, List.cons_append, List.nil_append, zb_0, zb_1, zem, z01, z11, nI_add, ↓reduceIte, not_true_eq_false, not_false_eq_true, n0T, n1F, n11T, true_or, or_true, false_or]
theorem bg_1 {sc : Int32 × (Int32 → Int32)} {F : zCF} {f : zF} {a : zA} {j : zJ} {v1 v2 v4 v5 : Value} : ∃ a' : zA, rn sc F 130 4 [.ref 85, v1, v2, .int (nI 0), v4, v5] [] f a j = rn sc F 130 31 [.ref 85, v1, v2, .int (nI 8), v4, v5] [] f a' j ∧ (∀ q, q < 8 → a' 94 (nI q) = -5 ∧ a' 95 (nI q) = nI 0) ∧ ∀ k, k ≠ 94 → k ≠ 95 → a' k = a k := by
  have key := zLoopP (n := 8) (g := fun s : (Nat × zA) => rn sc F 130 4 [.ref 85, v1, v2, .int (nI s.1), v4, v5] [] f s.2 j) (P := fun i s => s.1 = i ∧ (∀ q, q < i → s.2 94 (nI q) = -5 ∧ s.2 95 (nI q) = nI 0) ∧ ∀ k, k ≠ 94 → k ≠ 95 → s.2 k = a k) (by
    intro i s hi hP
    obtain ⟨i', a1⟩ := s
    obtain ⟨rfl, g1, g2⟩ := hP
    dsimp only at g1 g2 hi
    have c1 : ¬ nI 8 ≤ nI i' := nI_ge hi (by omega)
    have ix1 : zIx 21 94 (nI i') := ix94 hi
    have ix2 : zIx 21 95 (nI i') := ix95 hi
    refine ⟨(i' + 1, zuA (zuA a1 95 (nI i') (nI 0)) 94 (nI i') (-5)), ⟨rfl, fun q hq => ?_, fun k k1 k2 => ?_⟩, ?_⟩
    · dsimp only
      by_cases e : q = i'
      · rw [e]
        exact ⟨zuA_eq, by rw [zuA_nk (by omega)]; exact zuA_eq⟩
      · have e9 : nI q ≠ nI i' := nI_ne (by omega) (by omega) e
        rw [zuA_ni e9, zuA_ni e9, zuA_ni e9, zuA_ni e9]; exact g1 q (by omega)
    · dsimp only
      rw [zuA_nk k1, zuA_nk k2]; exact g2 k k1 k2
    · dsimp only
      rw [q130_4]
      simp only [q130_5, q130_7, q130_10, q130_11, q130_14, q130_15, q130_16, q130_17, q130_18, q130_21, q130_22, q130_24, q130_25, q130_28, c1, ix1, ix2, zCall_some, Option.toList, List.cons_append, List.nil_append, zb_0, zb_1, zem, z01, z11, nI_add, ↓reduceIte, not_true_eq_false, not_false_eq_true, n0T, n1F, n11T, true_or, or_true, false_or]) (0, a) ⟨rfl, fun q hq => by omega, fun _ _ _ => rfl⟩
  obtain ⟨⟨i, a1⟩, ⟨hi, g1, g2⟩, e⟩ := key
  dsimp only at g1 g2 hi e
  rw [hi] at e
  refine ⟨a1, ?_, g1, g2⟩
  have c1 : nI 8 ≤ nI 8 := nI_le (Nat.le_refl _) (by omega)
  refine Eq.trans (show _ = _ from e) ?_
  simp only [q130_4, q130_5, q130_7, c1, zCall_some, Option.toList, List.cons_append, List.nil_append, zb_0, zb_1, zem, z01, z11, nI_add, ↓reduceIte, not_true_eq_false, not_false_eq_true, n0T, n1F, n11T, true_or, or_true, false_or]
theorem bg_in {sc : Int32 × (Int32 → Int32)} {d : Nat} {f : zF} {a : zA} {j : zJ} {w St H G : Nat} {σ : Nat → Nat} {v3 : Value} (hR : MR σ a) (hV : VR σ) (hw : w ≤ 1010) (hSt : St ≤ 1100) (hH : H ≤ 97) (hG : G < 8) (hh : a 93 (nI G) = nI H) (h0 : a 95 (nI G) = nI 0) :
    ∃ a' : zA, rn sc (cf sc (d + 1)) 130 69 [.ref 85, .int (nI w), .int (nI St), v3, .int (nI G), .int (nI 0)] [] f a j = rn sc (cf sc (d + 1)) 130 110 [.ref 85, .int (nI w), .int (nI St), v3, .int (nI G), .int (nI H)] [] f a' j ∧ a' 95 (nI G) = nI (ngC (w * σ 1 + St) H) ∧ (∀ k, k ≠ 95 → a' k = a k) ∧ ∀ x, x ≠ nI G → a' 95 x = a 95 x := by
  have key := zLoopP (n := H) (g := fun s : (Nat × zA) => rn sc (cf sc (d + 1)) 130 69 [.ref 85, .int (nI w), .int (nI St), v3, .int (nI G), .int (nI s.1)] [] f s.2 j) (P := fun i s => s.1 = i ∧ s.2 95 (nI G) = nI (ngC (w * σ 1 + St) i) ∧ (∀ k, k ≠ 95 → s.2 k = a k) ∧ ∀ x, x ≠ nI G → s.2 95 x = a 95 x) (by
    intro t s ht hP
    obtain ⟨t', a1⟩ := s
    obtain ⟨rfl, g1, g2, g3⟩ := hP
    dsimp only at g1 g2 g3 ht
    have hR1 : MR σ a1 := hR.of (g2 86 (by omega))
    have c1 : ¬ nI H ≤ nI t' := nI_ge ht (by omega)
    have i93 : zIx 21 93 (nI G) := ix93 hG
    have i95 : zIx 21 95 (nI G) := ix95 hG
    have e93 : a1 93 (nI G) = nI H := by rw [g2 93 (by omega)]; exact hh
    have hN := m_isNight (sc := sc) (d := d) (f := f) (j := j) (t := St + t') hR1 hV hw (by omega)
    by_cases hn : ngB (w * σ 1 + (St + t')) = true
    · refine ⟨(t' + 1, zuA a1 95 (nI G) (nI (ngC (w * σ 1 + St) t' + 1))), ⟨rfl, ?_, fun k hk => (zuA_nk hk).trans (g2 k hk), fun x hx => (zuA_ni hx).trans (g3 x hx)⟩, ?_⟩
      · dsimp only
        rw [zuA_eq, ngC_s, Nat.add_assoc (w * σ 1) St t', if_pos hn]
      · dsimp only
        rw [q130_69]
        simp only [q130_0, q130_1, q130_2, q130_3, q130_4, q130_5, q130_7, q130_10, q130_11, q130_14, q130_15, q130_16, q130_17, q130_18, q130_21, q130_22, q130_24, q130_25, q130_28, q130_31, q130_32, q130_33, q130_34, q130_35, q130_38, q130_41, q130_42, q130_45, q130_46, q130_47, q130_49, q130_50, q130_51, q130_54, q130_55, q130_56, q130_57, q130_58, q130_59, q130_62, q130_64, q130_65, q130_66, q130_67, q130_71, q130_72, q130_75, q130_77, q130_78, q130_81, q130_82, q130_83, q130_84, q130_86, q130_87, q130_90, q130_93, q130_94, q130_97, q130_99, q130_100, q130_101, q130_102, q130_103, q130_104, q130_107, q130_111, q130_112, q130_115, q130_117, q130_118, q130_119, q130_120, q130_123, q130_126, i93, e93, c1, hN, eq_true hn, i95, g1, zCall_some, Option.toList, List.cons_append, List.nil_append, zb_0, zb_1, zem, z01, z11, nI_add, ↓reduceIte, not_true_eq_false, not_false_eq_true, n0T, n1F, n11T, true_or, or_true, false_or]
    · refine ⟨(t' + 1, a1), ⟨rfl, ?_, g2, g3⟩, ?_⟩
      · dsimp only
        rw [ngC_s, Nat.add_assoc (w * σ 1) St t', if_neg hn]
        exact g1
      · dsimp only
        rw [q130_69]
        simp only [q130_0, q130_1, q130_2, q130_3, q130_4, q130_5, q130_7, q130_10, q130_11, q130_14, q130_15, q130_16, q130_17, q130_18, q130_21, q130_22, q130_24, q130_25, q130_28, q130_31, q130_32, q130_33, q130_34, q130_35, q130_38, q130_41, q130_42, q130_45, q130_46, q130_47, q130_49, q130_50, q130_51, q130_54, q130_55, q130_56, q130_57, q130_58, q130_59, q130_62, q130_64, q130_65, q130_66, q130_67, q130_71, q130_72, q130_75, q130_77, q130_78, q130_81, q130_82, q130_83, q130_84, q130_86, q130_87, q130_90, q130_93, q130_94, q130_97, q130_99, q130_100, q130_101, q130_102, q130_103, q130_104, q130_107, q130_111, q130_112, q130_115, q130_117, q130_118, q130_119, q130_120, q130_123, q130_126, i93, e93, c1, hN, eq_false hn, zCall_some, Option.toList, List.cons_append, List.nil_append, zb_0, zb_1, zem, z01, z11, nI_add, ↓reduceIte, not_true_eq_false, not_false_eq_true, n0T, n1F, n11T, true_or, or_true, false_or]) (0, a) ⟨rfl, h0, fun _ _ => rfl, fun _ _ => rfl⟩
  obtain ⟨⟨t, a1⟩, ⟨ht, g1, g2, g3⟩, e⟩ := key
  dsimp only at g1 g2 g3 ht e
  rw [ht] at e
  refine ⟨a1, ?_, g1, g2, g3⟩
  have i93 : zIx 21 93 (nI G) := ix93 hG
  have e93 : a1 93 (nI G) = nI H := by rw [g2 93 (by omega)]; exact hh
  have c1 : nI H ≤ nI H := nI_le (Nat.le_refl _) (by omega)
  refine Eq.trans (show _ = _ from e) ?_
  simp only [q130_69, q130_71, q130_72, q130_75, q130_77, q130_78, i93, e93, c1, zCall_some, Option.toList, List.cons_append, List.nil_append, zb_0, zb_1, zem, z01, z11, nI_add, ↓reduceIte, not_true_eq_false, not_false_eq_true, n0T, n1F, n11T, true_or, or_true, false_or]
theorem m_begin {sc : Int32 × (Int32 → Int32)} {f : zF} {a : zA} {j : zJ} {d w : Nat} {σ : Nat → Nat} {tr : Bool} (hR : MR σ a) (hV : VR σ) (hw : w ≤ 1010) (hTr : tr = true → TrOK σ w) (hK : TkR σ w f a) (hA : ∀ g, g < σ 0 → a 93 (nI g) = nI (hvOf σ w tr g)) :
    ∃ a' : zA, cf sc (d + 2) 130 [.ref 85, .int (nI w)] f a j = some (none, f, a', j) ∧ (∀ g, g < σ 0 → a' 94 (nI g) = begF σ w tr g ∧ a' 95 (nI g) = nI (ngF σ w tr g)) ∧ ∀ k, k ≠ 94 → k ≠ 95 → a' k = a k := by
  have hn := hV.1
  have hlen := oL_le hV w
  have hnd : (oL σ w).Nodup := oS_nd hV w _ (Nat.le_refl _)
  obtain ⟨k1, k2, k3, k4, k5, k6, k7⟩ := hK
  obtain ⟨a1, s1, s2, s3⟩ := bg_1 (sc := sc) (F := cf sc (d + 1)) (f := f) (a := a) (j := j) (v1 := .int (nI w)) (v2 := .int (nI 0)) (v4 := .null) (v5 := .null)
  have key := zLoopP (n := (oL σ w).length) (g := fun s : (Nat × Value × Value × zA) => rn sc (cf sc (d + 1)) 130 33 [.ref 85, .int (nI w), .int (nI (tmS σ (oL σ w) (hvOf σ w tr) s.1)), .int (nI s.1), s.2.1, s.2.2.1] [] f s.2.2.2 j) (P := fun k s => s.1 = k ∧ (∀ q, q < k → s.2.2.2 94 (nI ((oL σ w).getD q 0)) = nI (stN σ w tr q) ∧ s.2.2.2 95 (nI ((oL σ w).getD q 0)) = nI (ngC (w * σ 1 + stN σ w tr q) (hvOf σ w tr ((oL σ w).getD q 0)))) ∧ (∀ g, g < 8 → (∀ q, q < k → (oL σ w).getD q 0 ≠ g) → s.2.2.2 94 (nI g) = -5 ∧ s.2.2.2 95 (nI g) = nI 0) ∧ ∀ k, k ≠ 94 → k ≠ 95 → s.2.2.2 k = a k) (by
    intro k s hk hP
    obtain ⟨k', v4, v5, a2⟩ := s
    obtain ⟨rfl, g1, g2, g3⟩ := hP
    dsimp only at g1 g2 g3 hk
    have hG := oL_lt hV hk
    have hR2 : MR σ a2 := hR.of (g3 86 (by omega) (by omega))
    have c1 : ¬ nI (oL σ w).length ≤ nI k' := nI_ge hk (by omega)
    have i90 : zIx 21 90 (nI k') := ix90 (by omega)
    have i91 : zIx 21 91 (nI k') := ix91 (by omega)
    have i94 : zIx 21 94 (nI ((oL σ w).getD k' 0)) := ix94 (by omega)
    have i93 : zIx 21 93 (nI ((oL σ w).getD k' 0)) := ix93 (by omega)
    have e90 : a2 90 (nI k') = nI ((oL σ w).getD k' 0) := by rw [g3 90 (by omega) (by omega)]; exact k5 k' hk
    have e91 : a2 91 (nI k') = nI (lgA σ (oL σ w) k') := by rw [g3 91 (by omega) (by omega)]; exact k6 k' hk
    have e93 : a2 93 (nI ((oL σ w).getD k' 0)) = nI (hvOf σ w tr ((oL σ w).getD k' 0)) := by rw [g3 93 (by omega) (by omega)]; exact hA _ hG
    have hst := st_le hV hTr hk
    have hhv := hv_97 hV hTr hG
    have hne : ∀ q, q < k' → (oL σ w).getD q 0 ≠ (oL σ w).getD k' 0 := fun q hq e => by have := getD_inj hnd (by omega) hk e; omega
    obtain ⟨z1, z2⟩ := g2 _ (show (oL σ w).getD k' 0 < 8 by omega) hne
    obtain ⟨a3, r1, r2, r3, r4⟩ := bg_in (sc := sc) (d := d) (f := f) (a := zuA a2 94 (nI ((oL σ w).getD k' 0)) (nI (stN σ w tr k'))) (j := j) (w := w) (St := stN σ w tr k') (H := hvOf σ w tr ((oL σ w).getD k' 0)) (G := (oL σ w).getD k' 0) (v3 := .int (nI k')) (hR2.of (zuA_nk (by omega))) hV hw hst hhv (by omega) (by rw [zuA_nk (by omega)]; exact e93) (by rw [zuA_nk (by omega)]; exact z2)
    refine ⟨(k' + 1, .int (nI ((oL σ w).getD k' 0)), .int (nI (hvOf σ w tr ((oL σ w).getD k' 0))), a3), ⟨rfl, fun q hq => ?_, fun g hg hno => ?_, fun k q1 q2 => ?_⟩, ?_⟩
    · dsimp only
      by_cases e : q = k'
      · rw [e, r3 94 (by omega), zuA_eq, r2]
        exact ⟨rfl, rfl⟩
      · have e9 : nI ((oL σ w).getD q 0) ≠ nI ((oL σ w).getD k' 0) := nI_ne (by have := oL_lt hV (w := w) (i := q) (by omega); omega) (by omega) (hne q (by omega))
        rw [r3 94 (by omega), zuA_ni e9, r4 _ e9, zuA_nk (by omega)]
        exact g1 q (by omega)
    · dsimp only
      have e9 : nI g ≠ nI ((oL σ w).getD k' 0) := nI_ne (by omega) (by omega) (fun e => hno k' (by omega) e.symm)
      rw [r3 94 (by omega), zuA_ni e9, r4 _ e9, zuA_nk (by omega)]
      exact g2 g hg (fun q hq => hno q (by omega))
    · dsimp only
      rw [r3 k q2, zuA_nk q1]; exact g3 k q1 q2
    · dsimp only
      have e3 : a3 93 (nI ((oL σ w).getD k' 0)) = nI (hvOf σ w tr ((oL σ w).getD k' 0)) := by rw [r3 93 (by omega), zuA_nk (by omega)]; exact e93
      have est : tmS σ (oL σ w) (hvOf σ w tr) k' + lgA σ (oL σ w) k' = stN σ w tr k' := rfl
      rw [q130_33, tmS_s, est]
      simp only [q130_0, q130_1, q130_2, q130_3, q130_4, q130_5, q130_7, q130_10, q130_11, q130_14, q130_15, q130_16, q130_17, q130_18, q130_21, q130_22, q130_24, q130_25, q130_28, q130_31, q130_32, q130_34, q130_35, q130_38, q130_41, q130_42, q130_45, q130_46, q130_47, q130_49, q130_50, q130_51, q130_54, q130_55, q130_56, q130_57, q130_58, q130_59, q130_62, q130_64, q130_65, q130_66, q130_67, q130_71, q130_72, q130_75, q130_77, q130_78, q130_81, q130_82, q130_83, q130_84, q130_86, q130_87, q130_90, q130_93, q130_94, q130_97, q130_99, q130_100, q130_101, q130_102, q130_103, q130_104, q130_107, k1, c1, i90, i91, i94, e90, e91, est, zCall_some, Option.toList, List.cons_append, List.nil_append, zb_0, zb_1, zem, z01, z11, nI_add, ↓reduceIte, not_true_eq_false, not_false_eq_true, n0T, n1F, n11T, true_or, or_true, false_or]
      refine Eq.trans (show _ = _ from r1) ?_
      simp only [q130_0, q130_1, q130_2, q130_3, q130_4, q130_5, q130_7, q130_10, q130_11, q130_14, q130_15, q130_16, q130_17, q130_18, q130_21, q130_22, q130_24, q130_25, q130_28, q130_31, q130_32, q130_34, q130_35, q130_38, q130_41, q130_42, q130_45, q130_46, q130_47, q130_49, q130_50, q130_51, q130_54, q130_55, q130_56, q130_57, q130_58, q130_59, q130_62, q130_64, q130_65, q130_66, q130_67, q130_71, q130_72, q130_75, q130_77, q130_78, q130_81, q130_82, q130_83, q130_84, q130_86, q130_87, q130_90, q130_93, q130_94, q130_97, q130_99, q130_100, q130_101, q130_102, q130_103, q130_104, q130_107, q130_110, q130_111, q130_112, q130_115, q130_117, q130_118, q130_119, q130_120, q130_123, q130_126, i93, e3, zCall_some, Option.toList, List.cons_append, List.nil_append, zb_0, zb_1, zem, z01, z11, nI_add, ↓reduceIte, not_true_eq_false, not_false_eq_true, n0T, n1F, n11T, true_or, or_true, false_or]) (0, .null, .null, a1) ⟨rfl, fun q hq => by omega, fun g hg _ => s2 g hg, s3⟩
  obtain ⟨⟨k, v4, v5, a2⟩, ⟨hk, g1, g2, g3⟩, e⟩ := key
  dsimp only at g1 g2 g3 hk e
  rw [hk] at e
  refine ⟨a2, ?_, fun g hg => ?_, g3⟩
  · have c1 : nI (oL σ w).length ≤ nI (oL σ w).length := nI_le (Nat.le_refl _) (by omega)
    rw [en130]
    simp only [q130_0, q130_1, q130_2, q130_3]
    refine Eq.trans (show _ = _ from s1) ?_
    simp only [q130_31, q130_32]
    refine Eq.trans (show _ = _ from e) ?_
    simp only [q130_33, q130_34, q130_35, q130_38, q130_126, k1, c1, zCall_some, Option.toList, List.cons_append, List.nil_append, zb_0, zb_1, zem, z01, z11, nI_add, ↓reduceIte, not_true_eq_false, not_false_eq_true, n0T, n1F, n11T, true_or, or_true, false_or]
  · unfold begF ngF
    rcases pl_cases hV w g with ⟨i, h1, h2, h3⟩ | ⟨h1, h3⟩
    · obtain ⟨x1, x2⟩ := g1 i h1
      rw [h2] at x1 x2
      have hi : i < 2 ^ 31 := by omega
      rw [ix_of hi h3, h3, if_neg (nI_n5 hi), if_neg (nI_n5 hi)]
      exact ⟨x1, x2⟩
    · rw [h3, if_pos rfl, if_pos rfl]
      exact g2 g (by omega) (fun q hq e => h1 (by rw [← e]; exact getD_mem hq))
/-- a WEEK is worked out -/
def TeO (σ : Nat → Nat) (w : Nat) (tr : Bool) (f : zF) (a : zA) : Prop := TkR σ w f a ∧ (∀ g, g < σ 0 → a 93 (nI g) = nI (hvOf σ w tr g)) ∧ ∀ g, g < σ 0 → a 94 (nI g) = begF σ w tr g ∧ a 95 (nI g) = nI (ngF σ w tr g)
/-- a WEEK's cells alone have changed -/
def MF (f f' : zF) (a a' : zA) : Prop := (∀ k, k ≠ 85 → f' k = f k) ∧ (∀ i, i ≠ 12 → i ≠ 13 → i ≠ 14 → f' 85 i = f 85 i) ∧ ∀ k, (k < 89 ∨ 97 < k) → a' k = a k
theorem MF.w {f f' : zF} {a a' : zA} (h : MF f f' a a') : MFW f f' a a' := ⟨h.1, h.2.1, fun k hk => h.2.2 k (by omega)⟩
theorem MF.r {σ : Nat → Nat} {f f' : zF} {a a' : zA} (h : MF f f' a a') (hR : MR σ a) : MR σ a' := hR.of (h.2.2 86 (by omega))
theorem m_tells {sc : Int32 × (Int32 → Int32)} {f : zF} {a : zA} {j : zJ} {d w : Nat} {σ : Nat → Nat} {tr : Bool} (hR : MR σ a) (hV : VR σ) (hw : w ≤ 1010) (hr : σ 2 ≤ 3) (hT : tr = true → TrOK σ w) :
    ∃ (f' : zF) (a' : zA), cf sc (d + 5) 131 [.ref 85, .int (nI w), .int (nI (if tr = true then 1 else 0))] f a j = some (none, f', a', j) ∧ TeO σ w tr f' a' ∧ MF f f' a a' := by
  obtain ⟨f1, a1, s1, s2, s3, s4, s5⟩ := m_takeTurns (sc := sc) (d := d + 2) (f := f) (j := j) hR hV hw hr
  have hR1 : MR σ a1 := hR.of (s3 86 (by omega))
  obtain ⟨a2, t1, t2, t3⟩ := m_haveAll (sc := sc) (d := d) (f := f1) (j := j) hR1 hV s2.2.2.1 hT
  have hR2 : MR σ a2 := hR1.of (t3 86 (by omega) (by omega) (by omega))
  have hK2 : TkR σ w f1 a2 := by
    obtain ⟨k1, k2, k3, k4, k5, k6, k7⟩ := s2
    refine ⟨k1, k2, k3, zLst_of k4 (t3 89 (by omega) (by omega) (by omega)), zLst_of k5 (t3 90 (by omega) (by omega) (by omega)), fun i hi => ?_, fun g hg => ?_⟩
    · rw [t3 91 (by omega) (by omega) (by omega)]; exact k6 i hi
    · rw [t3 92 (by omega) (by omega) (by omega)]; exact k7 g hg
  obtain ⟨a3, u1, u2, u3⟩ := m_begin (sc := sc) (d := d + 2) (f := f1) (j := j) hR2 hV hw hT hK2 t2
  have hK3 : TkR σ w f1 a3 := by
    obtain ⟨k1, k2, k3, k4, k5, k6, k7⟩ := hK2
    refine ⟨k1, k2, k3, zLst_of k4 (u3 89 (by omega) (by omega)), zLst_of k5 (u3 90 (by omega) (by omega)), fun i hi => ?_, fun g hg => ?_⟩
    · rw [u3 91 (by omega) (by omega)]; exact k6 i hi
    · rw [u3 92 (by omega) (by omega)]; exact k7 g hg
  refine ⟨f1, a3, ?_, ⟨hK3, fun g hg => by rw [u3 93 (by omega) (by omega)]; exact t2 g hg, u2⟩, ⟨s4, s5, fun k hk => by rw [u3 k (by omega) (by omega), t3 k (by omega) (by omega) (by omega), s3 k (by omega)]⟩⟩
  rw [en131]
  simp only [q131_0, q131_1, q131_2, q131_5, q131_6, q131_7, q131_10, q131_11, q131_12, q131_15, s1, t1, u1, zCall_some, Option.toList, List.cons_append, List.nil_append, zb_0, zb_1, zem, z01, z11, nI_add, ↓reduceIte, not_true_eq_false, not_false_eq_true, n0T, n1F, n11T, true_or, or_true, false_or]
theorem m_tellsF {sc : Int32 × (Int32 → Int32)} {f : zF} {a : zA} {j : zJ} {d w : Nat} {σ : Nat → Nat} (hR : MR σ a) (hV : VR σ) (hw : w ≤ 1010) (hr : σ 2 ≤ 3) :
    ∃ (f' : zF) (a' : zA), cf sc (d + 5) 131 [.ref 85, .int (nI w), .int (nI 0)] f a j = some (none, f', a', j) ∧ TeO σ w false f' a' ∧ MF f f' a a' := m_tells (tr := false) hR hV hw hr (fun q => by cases q)
theorem m_now {sc : Int32 × (Int32 → Int32)} {f : zF} {a : zA} {j : zJ} {d : Nat} {σ : Nat → Nat} (hR : MR σ a) (hV : VS σ) : ∃ (f' : zF) (a' : zA), cf sc (d + 6) 132 [.ref 85] f a j = some (none, f', a', j) ∧ TeO σ (σ 3) true f' a' ∧ MF f f' a a' := by
  have h9 := hV.1.2.2.2.2
  obtain ⟨f1, a1, s1, s2, s3⟩ := m_tells (sc := sc) (d := d) (f := f) (j := j) (w := σ 3) (tr := true) hR hV.1.1 (by omega) hV.1.2.2.2.1 (fun _ => hV.2.1)
  rw [if_pos rfl] at s1
  refine ⟨f1, a1, ?_, s2, s3⟩
  have ix3 : zIx 21 86 (nI 3) := ix86 (by omega)
  have e3 := hR 3 (by omega)
  rw [en132]
  simp only [q132_0, q132_1, q132_2, q132_5, q132_6, q132_7, q132_8, q132_11, ix3, e3, s1, zCall_some, Option.toList, List.cons_append, List.nil_append, zb_0, zb_1, zem, z01, z11, nI_add, ↓reduceIte, not_true_eq_false, not_false_eq_true, n0T, n1F, n11T, true_or, or_true, false_or]
theorem kpF_le (σ : Nat → Nat) : ∀ r, kpF σ r ≤ 100
  | 0 => Nat.le_refl _
  | r + 1 => by
    have := kpF_le σ r
    rw [kpF_s]
    omega
theorem m_water {sc : Int32 × (Int32 → Int32)} {f : zF} {a : zA} {j : zJ} {d w g : Nat} {σ : Nat → Nat} {tr : Bool} (hR : MR σ a) (hV : VR σ) (hA : ∀ g, g < σ 0 → a 93 (nI g) = nI (hvOf σ w tr g)) (hg : g < σ 0) : cf sc (d + 1) 133 [.ref 85, .int (nI g)] f a j = some (some (.int (nI (waF σ w tr g))), f, a, j) := by
  have hn := hV.1
  have h4 := (hV.2.2.1 g hg).1
  have ix16 : zIx 21 86 (nI (16 + g)) := ix86 (by omega)
  have e16 := hR (16 + g) (by omega)
  have i93 : zIx 21 93 (nI g) := ix93 (by omega)
  have key := zLoop (n := σ (16 + g) + 1) (g := fun r => rn sc (cf sc d) 133 4 [.ref 85, .int (nI g), .int (nI (100 - kpF σ r)), .int (nI r)] [] f a j) (by
    intro r hr
    have c1 : ¬ nI (σ (16 + g)) < nI r := nI_nlt (by omega) (by omega)
    have ix12 : zIx 21 86 (nI (12 + r)) := ix86 (by omega)
    have e12 := hR (12 + r) (by omega)
    have hk := kpF_ge hV r (by omega)
    have hk2 := kpF_le σ r
    have hl := (hV.2.2.2 r (by omega)).2
    have e : 100 - (kpF σ r - σ (12 + r)) = 100 - kpF σ r + σ (12 + r) := by omega
    rw [q133_4, kpF_s, e]
    simp only [q133_0, q133_1, q133_2, q133_3, q133_5, q133_6, q133_9, q133_11, q133_12, q133_13, q133_14, q133_17, q133_18, q133_19, q133_22, q133_24, q133_25, q133_26, q133_27, q133_28, q133_29, q133_32, q133_35, q133_36, q133_39, q133_40, q133_41, q133_43, q133_44, q133_45, q133_46, ix16, e16, c1, ix12, e12, zCall_some, Option.toList, List.cons_append, List.nil_append, zb_0, zb_1, zem, z01, z11, nI_add, ↓reduceIte, not_true_eq_false, not_false_eq_true, n0T, n1F, n11T, true_or, or_true, false_or])
  have c1 : nI (σ (16 + g)) < nI (σ (16 + g) + 1) := nI_lt (by omega) (by omega)
  have hk2 := kpF_le σ (σ (16 + g) + 1)
  have es : nI 100 - nI (100 - kpF σ (σ (16 + g) + 1)) = nI (kpF σ (σ (16 + g) + 1)) := by
    rw [pk_sub (by omega)]
    congr 1
    omega
  rw [en133, q133_0, q133_1, q133_2, q133_3]
  refine Eq.trans (show _ = _ from key) ?_
  simp only [q133_0, q133_1, q133_2, q133_3, q133_4, q133_5, q133_6, q133_9, q133_11, q133_12, q133_13, q133_14, q133_17, q133_18, q133_19, q133_22, q133_24, q133_25, q133_26, q133_27, q133_28, q133_29, q133_32, q133_35, q133_36, q133_39, q133_40, q133_41, q133_43, q133_44, q133_45, q133_46, ix16, e16, c1, i93, hA g hg, es, pk_mul, zCall_some, Option.toList, List.cons_append, List.nil_append, zb_0, zb_1, zem, z01, z11, nI_add, ↓reduceIte, not_true_eq_false, not_false_eq_true, n0T, n1F, n11T, true_or, or_true, false_or]
  rfl
theorem m_waterAll {sc : Int32 × (Int32 → Int32)} {f : zF} {a : zA} {j : zJ} {d w : Nat} {σ : Nat → Nat} {tr : Bool} (hR : MR σ a) (hV : VR σ) (hA : ∀ g, g < σ 0 → a 93 (nI g) = nI (hvOf σ w tr g)) : cf sc (d + 2) 134 [.ref 85] f a j = some (some (.int (nI (sumF (waF σ w tr) (σ 0)))), f, a, j) := by
  have hn := hV.1
  have ix0 : zIx 21 86 (nI 0) := ix86 (by omega)
  have e0 := hR 0 (by omega)
  have key := zLoop (n := σ 0) (g := fun i => rn sc (cf sc (d + 1)) 134 4 [.ref 85, .int (nI (sumF (waF σ w tr) i)), .int (nI i)] [] f a j) (by
    intro i hi
    have c1 : ¬ nI (σ 0) ≤ nI i := nI_ge hi (by omega)
    have hW := m_water (sc := sc) (d := d) (f := f) (j := j) hR hV hA hi
    rw [q134_4, sumF_s]
    simp only [q134_0, q134_1, q134_2, q134_3, q134_5, q134_6, q134_9, q134_10, q134_11, q134_14, q134_15, q134_16, q134_17, q134_20, q134_21, q134_22, q134_25, q134_28, q134_29, ix0, e0, c1, hW, zCall_some, Option.toList, List.cons_append, List.nil_append, zb_0, zb_1, zem, z01, z11, nI_add, ↓reduceIte, not_true_eq_false, not_false_eq_true, n0T, n1F, n11T, true_or, or_true, false_or])
  have c1 : nI (σ 0) ≤ nI (σ 0) := nI_le (Nat.le_refl _) (by omega)
  rw [en134, q134_0, q134_1, q134_2, q134_3]
  refine Eq.trans (show _ = _ from key) ?_
  simp only [q134_4, q134_5, q134_6, q134_9, q134_10, q134_11, q134_28, q134_29, ix0, e0, c1, zCall_some, Option.toList, List.cons_append, List.nil_append, zb_0, zb_1, zem, z01, z11, nI_add, ↓reduceIte, not_true_eq_false, not_false_eq_true, n0T, n1F, n11T, true_or, or_true, false_or]
theorem m_nightsAll {sc : Int32 × (Int32 → Int32)} {f : zF} {a : zA} {j : zJ} {d w : Nat} {σ : Nat → Nat} {tr : Bool} (hR : MR σ a) (hV : VR σ) (hA : ∀ g, g < σ 0 → a 95 (nI g) = nI (ngF σ w tr g)) : cf sc (d + 1) 135 [.ref 85] f a j = some (some (.int (nI (sumF (ngF σ w tr) (σ 0)))), f, a, j) := by
  have hn := hV.1
  have ix0 : zIx 21 86 (nI 0) := ix86 (by omega)
  have e0 := hR 0 (by omega)
  have key := zLoop (n := σ 0) (g := fun i => rn sc (cf sc d) 135 4 [.ref 85, .int (nI (sumF (ngF σ w tr) i)), .int (nI i)] [] f a j) (by
    intro i hi
    have c1 : ¬ nI (σ 0) ≤ nI i := nI_ge hi (by omega)
    have i95 : zIx 21 95 (nI i) := ix95 (by omega)
    rw [q135_4, sumF_s]
    simp only [q135_0, q135_1, q135_2, q135_3, q135_5, q135_6, q135_9, q135_10, q135_11, q135_14, q135_15, q135_16, q135_19, q135_20, q135_21, q135_22, q135_23, q135_26, q135_29, q135_30, ix0, e0, c1, i95, hA i hi, zCall_some, Option.toList, List.cons_append, List.nil_append, zb_0, zb_1, zem, z01, z11, nI_add, ↓reduceIte, not_true_eq_false, not_false_eq_true, n0T, n1F, n11T, true_or, or_true, false_or])
  have c1 : nI (σ 0) ≤ nI (σ 0) := nI_le (Nat.le_refl _) (by omega)
  rw [en135, q135_0, q135_1, q135_2, q135_3]
  refine Eq.trans (show _ = _ from key) ?_
  simp only [q135_4, q135_5, q135_6, q135_9, q135_10, q135_11, q135_29, q135_30, ix0, e0, c1, zCall_some, Option.toList, List.cons_append, List.nil_append, zb_0, zb_1, zem, z01, z11, nI_add, ↓reduceIte, not_true_eq_false, not_false_eq_true, n0T, n1F, n11T, true_or, or_true, false_or]
theorem m_hasAll {sc : Int32 × (Int32 → Int32)} {f : zF} {a : zA} {j : zJ} {d w : Nat} {σ : Nat → Nat} {tr : Bool} (hR : MR σ a) (hV : VR σ) (hA : ∀ g, g < σ 0 → a 93 (nI g) = nI (hvOf σ w tr g)) : cf sc (d + 1) 136 [.ref 85] f a j = some (some (.int (nI (sumF (hvOf σ w tr) (σ 0)))), f, a, j) := by
  have hn := hV.1
  have ix0 : zIx 21 86 (nI 0) := ix86 (by omega)
  have e0 := hR 0 (by omega)
  have key := zLoop (n := σ 0) (g := fun i => rn sc (cf sc d) 136 4 [.ref 85, .int (nI (sumF (hvOf σ w tr) i)), .int (nI i)] [] f a j) (by
    intro i hi
    have c1 : ¬ nI (σ 0) ≤ nI i := nI_ge hi (by omega)
    have i93 : zIx 21 93 (nI i) := ix93 (by omega)
    rw [q136_4, sumF_s]
    simp only [q136_0, q136_1, q136_2, q136_3, q136_5, q136_6, q136_9, q136_10, q136_11, q136_14, q136_15, q136_16, q136_19, q136_20, q136_21, q136_22, q136_23, q136_26, q136_29, q136_30, ix0, e0, c1, i93, hA i hi, zCall_some, Option.toList, List.cons_append, List.nil_append, zb_0, zb_1, zem, z01, z11, nI_add, ↓reduceIte, not_true_eq_false, not_false_eq_true, n0T, n1F, n11T, true_or, or_true, false_or])
  have c1 : nI (σ 0) ≤ nI (σ 0) := nI_le (Nat.le_refl _) (by omega)
  rw [en136, q136_0, q136_1, q136_2, q136_3]
  refine Eq.trans (show _ = _ from key) ?_
  simp only [q136_4, q136_5, q136_6, q136_9, q136_10, q136_11, q136_29, q136_30, ix0, e0, c1, zCall_some, Option.toList, List.cons_append, List.nil_append, zb_0, zb_1, zem, z01, z11, nI_add, ↓reduceIte, not_true_eq_false, not_false_eq_true, n0T, n1F, n11T, true_or, or_true, false_or]
