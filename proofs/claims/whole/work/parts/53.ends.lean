/-! ===== the class: ends, judge ===== -/
def goS (σ : Nat → Nat) (w x : Nat) : Nat → Nat := if w = 0 then zup (zup σ (32 + x) (1 - σ (32 + x))) 4 0 else if w = 1 then zup (zup σ 3 (if σ 3 + x ≤ 999 then σ 3 + x else 999)) 4 0 else if w = 2 then zup (zup σ 2 x) 4 0 else zup (zup σ 1 x) 4 0
def plF (σ : Nat → Nat) : Nat → Nat → Nat
  | 0 => σ
  | k + 1 => goS (plF σ k) (σ (86 + k)) (σ (94 + k))
theorem goS_0 {σ : Nat → Nat} {w x : Nat} : goS σ w x 0 = σ 0 ∧ goS σ w x 4 = 0 := by
  unfold goS
  split
  · exact ⟨by rw [zup_ne (by omega), zup_ne (by omega)], zup_eq⟩
  · split
    · exact ⟨by rw [zup_ne (by omega), zup_ne (by omega)], zup_eq⟩
    · split
      · exact ⟨by rw [zup_ne (by omega), zup_ne (by omega)], zup_eq⟩
      · exact ⟨by rw [zup_ne (by omega), zup_ne (by omega)], zup_eq⟩
theorem m_goOn {sc : Int32 × (Int32 → Int32)} {f : zF} {a : zA} {j : zJ} {d w x : Nat} {σ : Nat → Nat} (hV : VC σ) (hR : CR 45 σ f a) (hP : PlOK (σ 0) w x) : ∃ f' : zF, cf sc (d + 4) 106 [.ref 0, .int (nI w), .int (nI x)] f a j = some (none, f', a, j) ∧ CR 45 (goS σ w x) f' a ∧ VC (goS σ w x) ∧ ∀ k, k ≠ 45 → k ≠ 50 → f' k = f k := by
  have hn := hV.1.1
  obtain ⟨p1, p2, p3, p4, p5⟩ := hP
  rw [en106]
  unfold goS
  by_cases h0 : w = 0
  · subst h0
    rw [if_pos rfl]
    have hx := p2 rfl
    have hv : zHas (nI x) (σ 0) := zHas_nI (by omega) hx
    have hA := m_isAway (sc := sc) (d := d + 1) (f := f) (a := a) (j := j) isC_45 hV.1 hR.1 hx
    have h1 := (hV.1.2.2.1 x hx).2.2
    by_cases hz : σ (32 + x) = 1
    · obtain ⟨f1, r1, r2⟩ := m_setAway (sc := sc) (d := d) (j := j) (v := nI x) (b := nI 0) isC_45 hV hR
      unfold awS at r1 r2
      rw [if_pos hv, nI_clamp (n := x) (by omega), if_pos n0] at r1 r2
      rw [hz]
      refine ⟨f1, ?_, r2.1, r2.2.1, r2.2.2.1.1⟩
      simp only [q106_0, q106_1, q106_28, q106_29, q106_32, q106_33, q106_34, q106_37, q106_38, q106_41, q106_44, q106_45, q106_48, q106_49, q106_52, q106_53, q106_56, q106_57, q106_60, q106_61, q106_64, q106_65, q106_68, q106_71, q106_72, q106_75, q106_78, q106_79, q106_82, q106_83, q106_86, q106_87, q106_90, q106_91, q106_94, q106_95, q106_98, q106_99, q106_102, q106_103, isC_45, hA, hz, r1, ne0_1, ne0_2, ne0_3, ne0_4, ne0_5, ne0_6, ne0_7, ne0_8, ne0_9, ne0_10, ne0_11, ne0_12, ne1_0, ne1_2, ne1_3, ne1_4, ne1_5, ne1_6, ne1_7, ne1_8, ne1_9, ne1_10, ne1_11, ne1_12, ne2_0, ne2_1, ne2_3, ne2_4, ne2_5, ne2_6, ne2_7, ne2_8, ne2_9, ne2_10, ne2_11, ne2_12, ne3_0, ne3_1, ne3_2, ne3_4, ne3_5, ne3_6, ne3_7, ne3_8, ne3_9, ne3_10, ne3_11, ne3_12, ne4_0, ne4_1, ne4_2, ne4_3, ne4_5, ne4_6, ne4_7, ne4_8, ne4_9, ne4_10, ne4_11, ne4_12, ne5_0, ne5_1, ne5_2, ne5_3, ne5_4, ne5_6, ne5_7, ne5_8, ne5_9, ne5_10, ne5_11, ne5_12, ne6_0, ne6_1, ne6_2, ne6_3, ne6_4, ne6_5, ne6_7, ne6_8, ne6_9, ne6_10, ne6_11, ne6_12, ne7_0, ne7_1, ne7_2, ne7_3, ne7_4, ne7_5, ne7_6, ne7_8, ne7_9, ne7_10, ne7_11, ne7_12, ne8_0, ne8_1, ne8_2, ne8_3, ne8_4, ne8_5, ne8_6, ne8_7, ne8_9, ne8_10, ne8_11, ne8_12, ne9_0, ne9_1, ne9_2, ne9_3, ne9_4, ne9_5, ne9_6, ne9_7, ne9_8, ne9_10, ne9_11, ne9_12, ne10_0, ne10_1, ne10_2, ne10_3, ne10_4, ne10_5, ne10_6, ne10_7, ne10_8, ne10_9, ne10_11, ne10_12, ne11_0, ne11_1, ne11_2, ne11_3, ne11_4, ne11_5, ne11_6, ne11_7, ne11_8, ne11_9, ne11_10, ne11_12, ne12_0, ne12_1, ne12_2, ne12_3, ne12_4, ne12_5, ne12_6, ne12_7, ne12_8, ne12_9, ne12_10, ne12_11, zCall_some, Option.toList, List.cons_append, List.nil_append, zb_0, zb_1, zem, z01, z11, nI_add, ↓reduceIte, not_true_eq_false, not_false_eq_true, n0T, n1F, n11T, true_or, or_true, false_or]
    · have hz' : σ (32 + x) = 0 := by omega
      obtain ⟨f1, r1, r2⟩ := m_setAway (sc := sc) (d := d) (j := j) (v := nI x) (b := nI 1) isC_45 hV hR
      unfold awS at r1 r2
      rw [if_pos hv, nI_clamp (n := x) (by omega), if_neg (by decide)] at r1 r2
      rw [hz']
      refine ⟨f1, ?_, r2.1, r2.2.1, r2.2.2.1.1⟩
      simp only [q106_0, q106_1, q106_28, q106_29, q106_32, q106_33, q106_34, q106_37, q106_38, q106_41, q106_44, q106_45, q106_48, q106_49, q106_52, q106_53, q106_56, q106_57, q106_60, q106_61, q106_64, q106_65, q106_68, q106_71, q106_72, q106_75, q106_78, q106_79, q106_82, q106_83, q106_86, q106_87, q106_90, q106_91, q106_94, q106_95, q106_98, q106_99, q106_102, q106_103, isC_45, hA, hz', Nat.zero_ne_one, r1, ne0_1, ne0_2, ne0_3, ne0_4, ne0_5, ne0_6, ne0_7, ne0_8, ne0_9, ne0_10, ne0_11, ne0_12, ne1_0, ne1_2, ne1_3, ne1_4, ne1_5, ne1_6, ne1_7, ne1_8, ne1_9, ne1_10, ne1_11, ne1_12, ne2_0, ne2_1, ne2_3, ne2_4, ne2_5, ne2_6, ne2_7, ne2_8, ne2_9, ne2_10, ne2_11, ne2_12, ne3_0, ne3_1, ne3_2, ne3_4, ne3_5, ne3_6, ne3_7, ne3_8, ne3_9, ne3_10, ne3_11, ne3_12, ne4_0, ne4_1, ne4_2, ne4_3, ne4_5, ne4_6, ne4_7, ne4_8, ne4_9, ne4_10, ne4_11, ne4_12, ne5_0, ne5_1, ne5_2, ne5_3, ne5_4, ne5_6, ne5_7, ne5_8, ne5_9, ne5_10, ne5_11, ne5_12, ne6_0, ne6_1, ne6_2, ne6_3, ne6_4, ne6_5, ne6_7, ne6_8, ne6_9, ne6_10, ne6_11, ne6_12, ne7_0, ne7_1, ne7_2, ne7_3, ne7_4, ne7_5, ne7_6, ne7_8, ne7_9, ne7_10, ne7_11, ne7_12, ne8_0, ne8_1, ne8_2, ne8_3, ne8_4, ne8_5, ne8_6, ne8_7, ne8_9, ne8_10, ne8_11, ne8_12, ne9_0, ne9_1, ne9_2, ne9_3, ne9_4, ne9_5, ne9_6, ne9_7, ne9_8, ne9_10, ne9_11, ne9_12, ne10_0, ne10_1, ne10_2, ne10_3, ne10_4, ne10_5, ne10_6, ne10_7, ne10_8, ne10_9, ne10_11, ne10_12, ne11_0, ne11_1, ne11_2, ne11_3, ne11_4, ne11_5, ne11_6, ne11_7, ne11_8, ne11_9, ne11_10, ne11_12, ne12_0, ne12_1, ne12_2, ne12_3, ne12_4, ne12_5, ne12_6, ne12_7, ne12_8, ne12_9, ne12_10, ne12_11, zCall_some, Option.toList, List.cons_append, List.nil_append, zb_0, zb_1, zem, z01, z11, nI_add, ↓reduceIte, not_true_eq_false, not_false_eq_true, n0T, n1F, n11T, true_or, or_true, false_or]
  · rw [if_neg h0]
    have z0 : ¬ nI w = nI 0 := nI_ne (by omega) (by omega) h0
    by_cases h1 : w = 1
    · subst h1
      rw [if_pos rfl]
      have hx := p3 rfl
      have h9 := hV.2.2.2.2
      have es : nI 999 - nI (σ 3) = nI (999 - σ 3) := pk_sub h9
      have e8 : f 45 8 = nI (σ 3) := hR.2.2.1
      by_cases hz : σ 3 + x ≤ 999
      · have c1 : ¬ nI (999 - σ 3) < nI x := nI_nlt (by omega) (by omega)
        obtain ⟨f1, r1, r2⟩ := m_passWeeks (sc := sc) (d := d + 1) (j := j) (v := nI x) isC_45 hV hR
        unfold psS at r1 r2
        rw [if_pos (zBtw_nI (by omega) (by omega) hx), nI_clamp (n := x) (by omega), if_pos hz] at r1 r2
        rw [if_pos hz]
        refine ⟨f1, ?_, r2.1, r2.2.1, r2.2.2.1.1⟩
        simp only [q106_0, q106_1, q106_28, q106_29, q106_32, q106_33, q106_34, q106_37, q106_38, q106_41, q106_44, q106_45, q106_48, q106_49, q106_52, q106_53, q106_56, q106_57, q106_60, q106_61, q106_64, q106_65, q106_68, q106_71, q106_72, q106_75, q106_78, q106_79, q106_82, q106_83, q106_86, q106_87, q106_90, q106_91, q106_94, q106_95, q106_98, q106_99, q106_102, q106_103, isC_45, e8, es, m_min, c1, r1, ne0_1, ne0_2, ne0_3, ne0_4, ne0_5, ne0_6, ne0_7, ne0_8, ne0_9, ne0_10, ne0_11, ne0_12, ne1_0, ne1_2, ne1_3, ne1_4, ne1_5, ne1_6, ne1_7, ne1_8, ne1_9, ne1_10, ne1_11, ne1_12, ne2_0, ne2_1, ne2_3, ne2_4, ne2_5, ne2_6, ne2_7, ne2_8, ne2_9, ne2_10, ne2_11, ne2_12, ne3_0, ne3_1, ne3_2, ne3_4, ne3_5, ne3_6, ne3_7, ne3_8, ne3_9, ne3_10, ne3_11, ne3_12, ne4_0, ne4_1, ne4_2, ne4_3, ne4_5, ne4_6, ne4_7, ne4_8, ne4_9, ne4_10, ne4_11, ne4_12, ne5_0, ne5_1, ne5_2, ne5_3, ne5_4, ne5_6, ne5_7, ne5_8, ne5_9, ne5_10, ne5_11, ne5_12, ne6_0, ne6_1, ne6_2, ne6_3, ne6_4, ne6_5, ne6_7, ne6_8, ne6_9, ne6_10, ne6_11, ne6_12, ne7_0, ne7_1, ne7_2, ne7_3, ne7_4, ne7_5, ne7_6, ne7_8, ne7_9, ne7_10, ne7_11, ne7_12, ne8_0, ne8_1, ne8_2, ne8_3, ne8_4, ne8_5, ne8_6, ne8_7, ne8_9, ne8_10, ne8_11, ne8_12, ne9_0, ne9_1, ne9_2, ne9_3, ne9_4, ne9_5, ne9_6, ne9_7, ne9_8, ne9_10, ne9_11, ne9_12, ne10_0, ne10_1, ne10_2, ne10_3, ne10_4, ne10_5, ne10_6, ne10_7, ne10_8, ne10_9, ne10_11, ne10_12, ne11_0, ne11_1, ne11_2, ne11_3, ne11_4, ne11_5, ne11_6, ne11_7, ne11_8, ne11_9, ne11_10, ne11_12, ne12_0, ne12_1, ne12_2, ne12_3, ne12_4, ne12_5, ne12_6, ne12_7, ne12_8, ne12_9, ne12_10, ne12_11, zCall_some, Option.toList, List.cons_append, List.nil_append, zb_0, zb_1, zem, z01, z11, nI_add, ↓reduceIte, not_true_eq_false, not_false_eq_true, n0T, n1F, n11T, true_or, or_true, false_or]
      · have c1 : nI (999 - σ 3) < nI x := nI_lt (by omega) (by omega)
        have h99 : σ 3 + (999 - σ 3) = 999 := by omega
        obtain ⟨f1, r1, r2⟩ := m_passWeeks (sc := sc) (d := d + 1) (j := j) (v := nI (999 - σ 3)) isC_45 hV hR
        unfold psS at r1 r2
        rw [if_pos (zBtw_nI (by omega) (by omega) (by omega)), nI_clamp (n := 999 - σ 3) (by omega), if_pos (by omega), h99] at r1 r2
        rw [if_neg hz]
        refine ⟨f1, ?_, r2.1, r2.2.1, r2.2.2.1.1⟩
        simp only [q106_0, q106_1, q106_28, q106_29, q106_32, q106_33, q106_34, q106_37, q106_38, q106_41, q106_44, q106_45, q106_48, q106_49, q106_52, q106_53, q106_56, q106_57, q106_60, q106_61, q106_64, q106_65, q106_68, q106_71, q106_72, q106_75, q106_78, q106_79, q106_82, q106_83, q106_86, q106_87, q106_90, q106_91, q106_94, q106_95, q106_98, q106_99, q106_102, q106_103, isC_45, e8, es, m_min, c1, r1, ne0_1, ne0_2, ne0_3, ne0_4, ne0_5, ne0_6, ne0_7, ne0_8, ne0_9, ne0_10, ne0_11, ne0_12, ne1_0, ne1_2, ne1_3, ne1_4, ne1_5, ne1_6, ne1_7, ne1_8, ne1_9, ne1_10, ne1_11, ne1_12, ne2_0, ne2_1, ne2_3, ne2_4, ne2_5, ne2_6, ne2_7, ne2_8, ne2_9, ne2_10, ne2_11, ne2_12, ne3_0, ne3_1, ne3_2, ne3_4, ne3_5, ne3_6, ne3_7, ne3_8, ne3_9, ne3_10, ne3_11, ne3_12, ne4_0, ne4_1, ne4_2, ne4_3, ne4_5, ne4_6, ne4_7, ne4_8, ne4_9, ne4_10, ne4_11, ne4_12, ne5_0, ne5_1, ne5_2, ne5_3, ne5_4, ne5_6, ne5_7, ne5_8, ne5_9, ne5_10, ne5_11, ne5_12, ne6_0, ne6_1, ne6_2, ne6_3, ne6_4, ne6_5, ne6_7, ne6_8, ne6_9, ne6_10, ne6_11, ne6_12, ne7_0, ne7_1, ne7_2, ne7_3, ne7_4, ne7_5, ne7_6, ne7_8, ne7_9, ne7_10, ne7_11, ne7_12, ne8_0, ne8_1, ne8_2, ne8_3, ne8_4, ne8_5, ne8_6, ne8_7, ne8_9, ne8_10, ne8_11, ne8_12, ne9_0, ne9_1, ne9_2, ne9_3, ne9_4, ne9_5, ne9_6, ne9_7, ne9_8, ne9_10, ne9_11, ne9_12, ne10_0, ne10_1, ne10_2, ne10_3, ne10_4, ne10_5, ne10_6, ne10_7, ne10_8, ne10_9, ne10_11, ne10_12, ne11_0, ne11_1, ne11_2, ne11_3, ne11_4, ne11_5, ne11_6, ne11_7, ne11_8, ne11_9, ne11_10, ne11_12, ne12_0, ne12_1, ne12_2, ne12_3, ne12_4, ne12_5, ne12_6, ne12_7, ne12_8, ne12_9, ne12_10, ne12_11, zCall_some, Option.toList, List.cons_append, List.nil_append, zb_0, zb_1, zem, z01, z11, nI_add, ↓reduceIte, not_true_eq_false, not_false_eq_true, n0T, n1F, n11T, true_or, or_true, false_or]
    · rw [if_neg h1]
      have z1 : ¬ nI w = nI 1 := nI_ne (by omega) (by omega) h1
      by_cases h2 : w = 2
      · subst h2
        rw [if_pos rfl]
        obtain ⟨f1, r1, r2⟩ := m_setRule (sc := sc) (d := d + 1) (j := j) (v := nI x) isC_45 hV hR
        have hx := p4 rfl
        unfold ruS at r1 r2
        rw [if_pos (zBtw_nI (by omega) (by omega) hx), nI_clamp (n := x) (by omega)] at r1 r2
        refine ⟨f1, ?_, r2.1, r2.2.1, r2.2.2.1.1⟩
        simp only [q106_0, q106_1, q106_28, q106_29, q106_32, q106_33, q106_34, q106_37, q106_38, q106_41, q106_44, q106_45, q106_48, q106_49, q106_52, q106_53, q106_56, q106_57, q106_60, q106_61, q106_64, q106_65, q106_68, q106_71, q106_72, q106_75, q106_78, q106_79, q106_82, q106_83, q106_86, q106_87, q106_90, q106_91, q106_94, q106_95, q106_98, q106_99, q106_102, q106_103, isC_45, r1, ne0_1, ne0_2, ne0_3, ne0_4, ne0_5, ne0_6, ne0_7, ne0_8, ne0_9, ne0_10, ne0_11, ne0_12, ne1_0, ne1_2, ne1_3, ne1_4, ne1_5, ne1_6, ne1_7, ne1_8, ne1_9, ne1_10, ne1_11, ne1_12, ne2_0, ne2_1, ne2_3, ne2_4, ne2_5, ne2_6, ne2_7, ne2_8, ne2_9, ne2_10, ne2_11, ne2_12, ne3_0, ne3_1, ne3_2, ne3_4, ne3_5, ne3_6, ne3_7, ne3_8, ne3_9, ne3_10, ne3_11, ne3_12, ne4_0, ne4_1, ne4_2, ne4_3, ne4_5, ne4_6, ne4_7, ne4_8, ne4_9, ne4_10, ne4_11, ne4_12, ne5_0, ne5_1, ne5_2, ne5_3, ne5_4, ne5_6, ne5_7, ne5_8, ne5_9, ne5_10, ne5_11, ne5_12, ne6_0, ne6_1, ne6_2, ne6_3, ne6_4, ne6_5, ne6_7, ne6_8, ne6_9, ne6_10, ne6_11, ne6_12, ne7_0, ne7_1, ne7_2, ne7_3, ne7_4, ne7_5, ne7_6, ne7_8, ne7_9, ne7_10, ne7_11, ne7_12, ne8_0, ne8_1, ne8_2, ne8_3, ne8_4, ne8_5, ne8_6, ne8_7, ne8_9, ne8_10, ne8_11, ne8_12, ne9_0, ne9_1, ne9_2, ne9_3, ne9_4, ne9_5, ne9_6, ne9_7, ne9_8, ne9_10, ne9_11, ne9_12, ne10_0, ne10_1, ne10_2, ne10_3, ne10_4, ne10_5, ne10_6, ne10_7, ne10_8, ne10_9, ne10_11, ne10_12, ne11_0, ne11_1, ne11_2, ne11_3, ne11_4, ne11_5, ne11_6, ne11_7, ne11_8, ne11_9, ne11_10, ne11_12, ne12_0, ne12_1, ne12_2, ne12_3, ne12_4, ne12_5, ne12_6, ne12_7, ne12_8, ne12_9, ne12_10, ne12_11, zCall_some, Option.toList, List.cons_append, List.nil_append, zb_0, zb_1, zem, z01, z11, nI_add, ↓reduceIte, not_true_eq_false, not_false_eq_true, n0T, n1F, n11T, true_or, or_true, false_or]
      · have z2 : ¬ nI w = nI 2 := nI_ne (by omega) (by omega) h2
        rw [if_neg h2]
        obtain ⟨f1, r1, r2⟩ := m_setHours (sc := sc) (d := d + 1) (j := j) (v := nI x) isC_45 hV hR
        have hx := p5 (by omega)
        unfold hwS at r1 r2
        rw [if_pos (zBtw_nI (by omega) hx.1 hx.2), nI_clamp (n := x) (by omega)] at r1 r2
        refine ⟨f1, ?_, r2.1, r2.2.1, r2.2.2.1.1⟩
        simp only [q106_0, q106_1, q106_28, q106_29, q106_32, q106_33, q106_34, q106_37, q106_38, q106_41, q106_44, q106_45, q106_48, q106_49, q106_52, q106_53, q106_56, q106_57, q106_60, q106_61, q106_64, q106_65, q106_68, q106_71, q106_72, q106_75, q106_78, q106_79, q106_82, q106_83, q106_86, q106_87, q106_90, q106_91, q106_94, q106_95, q106_98, q106_99, q106_102, q106_103, isC_45, z0, z1, z2, r1, zCall_some, Option.toList, List.cons_append, List.nil_append, zb_0, zb_1, zem, z01, z11, nI_add, ↓reduceIte, not_true_eq_false, not_false_eq_true, n0T, n1F, n11T, true_or, or_true, false_or]
theorem plF_ok {σ : Nat → Nat} (hV : VS σ) : ∀ k, plF σ k 0 = σ 0 ∧ TrOK (plF σ k) (plF σ k 3)
  | 0 => ⟨rfl, hV.2.1⟩
  | k + 1 => by
    have ih := plF_ok hV k
    obtain ⟨e0, e4⟩ := goS_0 (σ := plF σ k) (w := σ (86 + k)) (x := σ (94 + k))
    refine ⟨?_, ?_, fun q hq => ?_⟩
    · show goS (plF σ k) (σ (86 + k)) (σ (94 + k)) 0 = _
      rw [e0, ih.1]
    · show goS (plF σ k) (σ (86 + k)) (σ (94 + k)) 4 ≤ _
      omega
    · have hq' : q < goS (plF σ k) (σ (86 + k)) (σ (94 + k)) 4 := hq
      omega
def sEnds (σ : Nat → Nat) (what : Int32) : Int32 := if zBtw what 0 2 then (if what = nI 0 then nI (sumF (waF (plF σ (σ 6)) (plF σ (σ 6) 3) true) (σ 0)) else if what = nI 1 then nI (lagAll (plF σ (σ 6)) (plF σ (σ 6) 3)) else nI (sumF (ngF (plF σ (σ 6)) (plF σ (σ 6) 3) true) (σ 0))) else -1
def FrE (f f' : zF) (a a' : zA) : Prop := (∀ k, (k < 45 ∨ 64 < k) → f' k = f k) ∧ ∀ k, (k < 45 ∨ 64 < k) → a' k = a k
theorem FrE.rf {f : zF} {a : zA} : FrE f f a a := ⟨fun _ _ => rfl, fun _ _ => rfl⟩
theorem FrE.w {f f' : zF} {a a' : zA} (h : FrE f f' a a') : FrW f f' a a' := ⟨fun k hk => h.1 k (by omega), fun k hk => h.2 k (by omega)⟩
theorem FrT.e {f f' : zF} {a a' : zA} (h : FrT f f' a a') : FrE f f' a a' := ⟨fun k hk => h.1 k (by omega), fun k hk => h.2 k (by omega)⟩
theorem WR.fe {σ : Nat → Nat} {f f' : zF} {a a' : zA} (h : WR 1 σ f a) (e : FrE f f' a a') : WR 1 σ f' a' := h.lo (fun k hk => e.1 k (by omega)) (fun k hk => e.2 k (by omega))
theorem x_ends {sc : Int32 × (Int32 → Int32)} {f : zF} {a : zA} {j : zJ} {d : Nat} {σ : Nat → Nat} {what : Int32} (hW : WR 1 σ f a) (hV : VS σ) : ∃ (f' : zF) (a' : zA), cf sc (d + 7) 82 [.ref 0, .int what] f a j = some (some (.int (sEnds σ what)), f', a', j) ∧ FrE f f' a a' := by
  rw [en82]
  unfold sEnds
  by_cases hb : zBtw what 0 2
  · rw [if_pos hb]
    obtain ⟨v5, v6⟩ := hV.2.2.2.1
    obtain ⟨f0, a0, s1, s2, s3, s4⟩ := m_copyCanal (sc := sc) (d := d + 3) (j := j) isC_2 isC_45 (by omega) hV.1.1.1 hV.2.1.1 hW.cr
    have key := zLoopP (n := σ 6) (g := fun s : (Nat × zF) => rn sc (cf sc (d + 6)) 82 27 [.ref 0, .int what, .int (nI s.1)] [] s.2 a0 j) (P := fun i s => s.1 = i ∧ CR 45 (plF σ i) s.2 a0 ∧ VC (plF σ i) ∧ ∀ k, (k < 45 ∨ 64 < k) → s.2 k = f k) (by
      intro i s hi hP
      obtain ⟨i', f1⟩ := s
      obtain ⟨rfl, hC, hVC, hF⟩ := hP
      dsimp only at hC hVC hF hi
      have e3 : f1 15 3 = nI (σ 6) := by rw [hF 15 (by omega)]; exact hW.2.2.2.1.1
      have e1 : a0 16 (nI i') = nI (σ (86 + i')) := by rw [s4 16 (by omega)]; exact (hW.2.2.2.1.2 i' hi).1
      have e2 : a0 17 (nI i') = nI (σ (94 + i')) := by rw [s4 17 (by omega)]; exact (hW.2.2.2.1.2 i' hi).2
      have hP1 : PlOK (plF σ i' 0) (σ (86 + i')) (σ (94 + i')) := by rw [(plF_ok hV i').1]; exact v6 i' hi
      obtain ⟨f2, g1, g2, g3, g4⟩ := m_goOn (sc := sc) (d := d + 2) (f := f1) (a := a0) (j := j) hVC hC hP1
      refine ⟨(i' + 1, f2), ⟨rfl, g2, g3, fun k hk => by dsimp only; rw [g4 k (by omega) (by omega), hF k hk]⟩, ?_⟩
      have c1 : ¬ nI (σ 6) ≤ nI i' := nI_ge hi (by omega)
      have i1 : zIx 21 16 (nI i') := ixR1 isR_15 (by show i' < 8; omega)
      have i2 : zIx 21 17 (nI i') := ixR2 isR_15 (by show i' < 8; omega)
      dsimp only
      rw [q82_27]
      simp only [q82_0, q82_1, q82_2, q82_3, q82_6, q82_9, q82_10, q82_11, q82_12, q82_15, q82_16, q82_19, q82_22, q82_25, q82_26, q82_28, q82_29, q82_32, q82_35, q82_38, q82_41, q82_42, q82_43, q82_46, q82_49, q82_52, q82_53, q82_54, q82_55, q82_58, q82_61, q82_64, q82_65, q82_66, q82_69, q82_72, q82_75, q82_76, q82_79, q82_80, q82_83, q82_84, q82_87, q82_90, q82_91, q82_94, q82_97, q82_98, q82_101, q82_104, q82_105, q82_108, q82_109, q82_136, q82_137, q82_140, q82_141, q82_144, q82_147, q82_148, q82_149, q82_152, q82_155, q82_156, q82_157, q82_160, q82_163, isW_1, isR_15, Nat.reduceAdd, e3, c1, i1, i2, e1, e2, g1, zCall_some, Option.toList, List.cons_append, List.nil_append, zb_0, zb_1, zem, z01, z11, nI_add, ↓reduceIte, not_true_eq_false, not_false_eq_true, n0T, n1F, n11T, true_or, or_true, false_or]) (0, f0) ⟨rfl, s2, hV.1, fun k hk => s3 k (by omega) (by omega)⟩
    obtain ⟨⟨i, f1⟩, ⟨hi, hC, hVC, hF⟩, e⟩ := key
    dsimp only at hF e hi hC hVC
    rw [hi] at e
    obtain ⟨p0, pT⟩ := plF_ok hV (σ 6)
    obtain ⟨f2, a2, t1, t2, t3, t4⟩ := m_workOut (sc := sc) (d := d + 1) (f := f1) (a := a0) (j := j) (c := 45) (w := plF σ (σ 6) 3) (tr := true) isC_45 hVC.1 (by have := hVC.2.2.2.2; omega) hVC.2.2.2.1 hC.1 (fun _ => pT)
    rw [if_pos rfl] at t1
    have hC2 : CR 45 (plF σ (σ 6)) f2 a2 := hC.fr (fun k hk => t4 k (by omega)) (fun k hk => t3 k (by omega))
    have hwa := m_allWater (sc := sc) (d := d + 1) (j := j) isC_45 hVC.1 hC2.1 t2
    have hni := m_allNight (sc := sc) (d := d) (j := j) hVC.1 (by have := hVC.2.2.2.2; omega) (fun _ => pT) t2
    rw [p0] at hwa hni
    refine ⟨f2, a2, ?_, ⟨fun k hk => by rw [t4 k (by omega), hF k hk], fun k hk => by rw [t3 k (by omega), s4 k (by omega)]⟩⟩
    have c1 : nI (σ 6) ≤ nI (σ 6) := nI_le (Nat.le_refl _) (by omega)
    have e3 : f1 15 3 = nI (σ 6) := by rw [hF 15 (by omega)]; exact hW.2.2.2.1.1
    have l2 : f2 54 11 = nI (lagAll (plF σ (σ 6)) (plF σ (σ 6) 3)) := t2.2.2.1
    simp only [q82_0, q82_1, q82_2, q82_3, q82_6, q82_9, q82_10, q82_11, q82_12, q82_15, q82_16, q82_19, q82_22, q82_25, q82_26, q82_28, q82_29, q82_32, q82_35, q82_38, q82_41, q82_42, q82_43, q82_46, q82_49, q82_52, q82_53, q82_54, q82_55, q82_58, q82_61, q82_64, q82_65, q82_66, q82_69, q82_72, q82_75, q82_76, q82_79, q82_80, q82_83, q82_84, q82_87, q82_90, q82_91, q82_94, q82_97, q82_98, q82_101, q82_104, q82_105, q82_108, q82_109, q82_136, q82_137, q82_140, q82_141, q82_144, q82_147, q82_148, q82_149, q82_152, q82_155, q82_156, q82_157, q82_160, q82_163, m_isWithin, eq_true hb, isW_1, isC_2, isC_45, Nat.reduceAdd, s1, zCall_some, Option.toList, List.cons_append, List.nil_append, zb_0, zb_1, zem, z01, z11, nI_add, ↓reduceIte, not_true_eq_false, not_false_eq_true, n0T, n1F, n11T, true_or, or_true, false_or]
    refine Eq.trans (show _ = _ from e) ?_
    by_cases h0 : what = nI 0
    · rw [h0]
      simp only [q82_0, q82_1, q82_2, q82_3, q82_6, q82_9, q82_10, q82_11, q82_12, q82_15, q82_16, q82_19, q82_22, q82_25, q82_26, q82_27, q82_28, q82_29, q82_32, q82_35, q82_38, q82_41, q82_42, q82_43, q82_46, q82_49, q82_52, q82_53, q82_54, q82_55, q82_58, q82_61, q82_64, q82_65, q82_66, q82_69, q82_72, q82_75, q82_76, q82_79, q82_80, q82_83, q82_84, q82_87, q82_90, q82_91, q82_94, q82_97, q82_98, q82_101, q82_104, q82_105, q82_108, q82_109, q82_136, q82_137, q82_140, q82_141, q82_144, q82_147, q82_148, q82_149, q82_152, q82_155, q82_156, q82_157, q82_160, q82_163, isW_1, isC_2, isC_45, isR_15, Nat.reduceAdd, e3, c1, hC.2.1, hC.2.2.1, hC.2.2.2, t1, hwa, zCall_some, Option.toList, List.cons_append, List.nil_append, zb_0, zb_1, zem, z01, z11, nI_add, ↓reduceIte, not_true_eq_false, not_false_eq_true, n0T, n1F, n11T, true_or, or_true, false_or]
    · by_cases h1 : what = nI 1
      · rw [h1]
        simp only [q82_0, q82_1, q82_2, q82_3, q82_6, q82_9, q82_10, q82_11, q82_12, q82_15, q82_16, q82_19, q82_22, q82_25, q82_26, q82_27, q82_28, q82_29, q82_32, q82_35, q82_38, q82_41, q82_42, q82_43, q82_46, q82_49, q82_52, q82_53, q82_54, q82_55, q82_58, q82_61, q82_64, q82_65, q82_66, q82_69, q82_72, q82_75, q82_76, q82_79, q82_80, q82_83, q82_84, q82_87, q82_90, q82_91, q82_94, q82_97, q82_98, q82_101, q82_104, q82_105, q82_108, q82_109, q82_136, q82_137, q82_140, q82_141, q82_144, q82_147, q82_148, q82_149, q82_152, q82_155, q82_156, q82_157, q82_160, q82_163, isW_1, isC_2, isC_45, isR_15, Nat.reduceAdd, e3, c1, hC.2.1, hC.2.2.1, hC.2.2.2, t1, l2, ne1_0, zCall_some, Option.toList, List.cons_append, List.nil_append, zb_0, zb_1, zem, z01, z11, nI_add, ↓reduceIte, not_true_eq_false, not_false_eq_true, n0T, n1F, n11T, true_or, or_true, false_or]
      · simp only [q82_0, q82_1, q82_2, q82_3, q82_6, q82_9, q82_10, q82_11, q82_12, q82_15, q82_16, q82_19, q82_22, q82_25, q82_26, q82_27, q82_28, q82_29, q82_32, q82_35, q82_38, q82_41, q82_42, q82_43, q82_46, q82_49, q82_52, q82_53, q82_54, q82_55, q82_58, q82_61, q82_64, q82_65, q82_66, q82_69, q82_72, q82_75, q82_76, q82_79, q82_80, q82_83, q82_84, q82_87, q82_90, q82_91, q82_94, q82_97, q82_98, q82_101, q82_104, q82_105, q82_108, q82_109, q82_136, q82_137, q82_140, q82_141, q82_144, q82_147, q82_148, q82_149, q82_152, q82_155, q82_156, q82_157, q82_160, q82_163, isW_1, isC_2, isC_45, isR_15, Nat.reduceAdd, e3, c1, hC.2.1, hC.2.2.1, hC.2.2.2, t1, hni, h0, h1, zCall_some, Option.toList, List.cons_append, List.nil_append, zb_0, zb_1, zem, z01, z11, nI_add, ↓reduceIte, not_true_eq_false, not_false_eq_true, n0T, n1F, n11T, true_or, or_true, false_or]
  · rw [if_neg hb]
    refine ⟨f, a, ?_, FrE.rf⟩
    simp only [q82_0, q82_1, q82_2, q82_3, q82_6, q82_9, q82_10, q82_11, q82_12, q82_15, q82_16, q82_19, q82_22, q82_25, q82_26, q82_28, q82_29, q82_32, q82_35, q82_38, q82_41, q82_42, q82_43, q82_46, q82_49, q82_52, q82_53, q82_54, q82_55, q82_58, q82_61, q82_64, q82_65, q82_66, q82_69, q82_72, q82_75, q82_76, q82_79, q82_80, q82_83, q82_84, q82_87, q82_90, q82_91, q82_94, q82_97, q82_98, q82_101, q82_104, q82_105, q82_108, q82_109, q82_136, q82_137, q82_140, q82_141, q82_144, q82_147, q82_148, q82_149, q82_152, q82_155, q82_156, q82_157, q82_160, q82_163, m_isWithin, eq_false hb, zCall_some, Option.toList, List.cons_append, List.nil_append, zb_0, zb_1, zem, z01, z11, nI_add, ↓reduceIte, not_true_eq_false, not_false_eq_true, n0T, n1F, n11T, true_or, or_true, false_or]
/-- hours told by a row, from place i on -/
def jgF (hv : Nat → Nat) (ti : Nat → Int64) (tz i : Nat) : Nat → Nat → Int32
  | _, 0 => -5
  | k, m + 1 => if tz ≤ i + k then nI (100 + k) else if ti (i + k) = lN (hv k) then jgF hv ti tz i (k + 1) m else nI k
