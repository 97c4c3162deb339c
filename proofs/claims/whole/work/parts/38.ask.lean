/-! ===== the class: what is asked of the Turns ===== -/
/-- BEGINS, ENDS, hours by NIGHT, WATER -/
def ixI (σ : Nat → Nat) (w g : Nat) : Nat := (plS σ w (σ 0) g).toNatClampNeg
def stN (σ : Nat → Nat) (w : Nat) (tr : Bool) (i : Nat) : Nat := tmS σ (oL σ w) (hvOf σ w tr) i + lgA σ (oL σ w) i
def begF (σ : Nat → Nat) (w : Nat) (tr : Bool) (g : Nat) : Int32 := if plS σ w (σ 0) g = -5 then -5 else nI (stN σ w tr (ixI σ w g))
def endF (σ : Nat → Nat) (w : Nat) (tr : Bool) (g : Nat) : Int32 := if plS σ w (σ 0) g = -5 then -5 else nI (stN σ w tr (ixI σ w g) + hvOf σ w tr g)
def ngF (σ : Nat → Nat) (w : Nat) (tr : Bool) (g : Nat) : Nat := if plS σ w (σ 0) g = -5 then 0 else ngC (w * σ 1 + stN σ w tr (ixI σ w g)) (hvOf σ w tr g)
def kpF (σ : Nat → Nat) : Nat → Nat
  | 0 => 100
  | r + 1 => kpF σ r - σ (12 + r)
def waF (σ : Nat → Nat) (w : Nat) (tr : Bool) (g : Nat) : Nat := hvOf σ w tr g * kpF σ (σ (16 + g) + 1)
theorem hv_97 {σ : Nat → Nat} (hV : VR σ) {w : Nat} {tr : Bool} (hT : tr = true → TrOK σ w) {g : Nat} (hg : g < σ 0) : hvOf σ w tr g ≤ 97 := by
  have h1 := sumF_le (x := hvOf σ w tr) (σ 0) hg
  have h2 := hv_sum (σ := σ) (w := w) (tr := tr) hT
  have h3 : leftOf σ w ≤ 97 := by unfold leftOf; have := hV.2.1; omega
  omega
theorem tm_le {σ : Nat → Nat} (hV : VR σ) {w : Nat} {tr : Bool} (hT : tr = true → TrOK σ w) : ∀ i, i ≤ (oL σ w).length → tmS σ (oL σ w) (hvOf σ w tr) i ≤ 133 * i
  | 0, _ => Nat.le_refl _
  | i + 1, hi => by
    have ih := tm_le hV hT i (by omega)
    have hl := oL_lt hV (w := w) (i := i) (by omega)
    have h1 := lgA_le hV (L := oL σ w) (i := i) (hV.2.2.1 _ hl).1
    have h2 := hv_97 hV hT hl
    rw [tmS_s]
    omega
theorem st_le {σ : Nat → Nat} (hV : VR σ) {w : Nat} {tr : Bool} (hT : tr = true → TrOK σ w) {i : Nat} (hi : i < (oL σ w).length) : stN σ w tr i ≤ 1100 := by
  have h1 := tm_le hV hT i (by omega)
  have h2 := lgA_le hV (L := oL σ w) (i := i) (hV.2.2.1 _ (oL_lt hV hi)).1
  have h3 := oL_le hV w
  unfold stN
  omega
theorem ix_of {σ : Nat → Nat} {w g i : Nat} (hi : i < 2 ^ 31) (h : plS σ w (σ 0) g = nI i) : ixI σ w g = i := by
  unfold ixI
  rw [h, nI_clamp hi]
theorem m_placeOf {sc : Int32 × (Int32 → Int32)} {f : zF} {a : zA} {j : zJ} {d w g : Nat} {σ : Nat → Nat} {tr : Bool} (hT : TuO σ w tr f a) (hg : g < 8) : cf sc (d + 1) 40 [.ref 54, .int (nI g)] f a j = some (some (.int (plS σ w (σ 0) g)), f, a, j) := by
  have ix1 : zIx 21 61 (nI g) := ix61 hg
  rw [en40]
  simp only [q40_0, q40_1, q40_4, q40_5, q40_6, ix1, hT.2.2.2.2.2.2.2.2.2.1 g hg, zCall_some, Option.toList, List.cons_append, List.nil_append, zb_0, zb_1, zem, z01, z11, nI_add, ↓reduceIte, not_true_eq_false, not_false_eq_true, n0T, n1F, n11T, true_or, or_true, false_or]
theorem m_startOf {sc : Int32 × (Int32 → Int32)} {f : zF} {a : zA} {j : zJ} {d w g : Nat} {σ : Nat → Nat} {tr : Bool} (hV : VR σ) (hT : TuO σ w tr f a) (hg : g < σ 0) : cf sc (d + 1) 41 [.ref 54, .int (nI g)] f a j = some (some (.int (begF σ w tr g)), f, a, j) := by
  have hn := hV.1
  have hl := oL_le hV w
  have ix1 : zIx 21 61 (nI g) := ix61 (by omega)
  have ix2 : zIx 21 62 (nI g) := ix62 (by omega)
  have e1 := hT.2.2.2.2.2.2.2.2.2.1 g (by omega)
  rw [en41]
  unfold begF
  rcases pl_cases hV w g with ⟨i, h1, h2, h3⟩ | ⟨-, h3⟩
  · have hi : i < 2 ^ 31 := by omega
    have e2 := (hT.2.2.2.2.2.2.2.2.2.2 i h1).1
    rw [h2] at e2
    rw [ix_of hi h3, h3]
    rw [h3] at e1
    simp only [q41_0, q41_1, q41_4, q41_5, q41_6, q41_8, q41_11, q41_13, q41_16, q41_17, q41_20, q41_21, q41_22, ix1, ix2, e1, e2, nI_n5 hi, zCall_some, Option.toList, List.cons_append, List.nil_append, zb_0, zb_1, zem, z01, z11, nI_add, ↓reduceIte, not_true_eq_false, not_false_eq_true, n0T, n1F, n11T, true_or, or_true, false_or]
    rfl
  · rw [h3] at e1 ⊢
    simp only [q41_0, q41_1, q41_4, q41_5, q41_6, q41_8, q41_11, q41_13, q41_16, q41_17, q41_20, q41_21, q41_22, ix1, e1, zCall_some, Option.toList, List.cons_append, List.nil_append, zb_0, zb_1, zem, z01, z11, nI_add, ↓reduceIte, not_true_eq_false, not_false_eq_true, n0T, n1F, n11T, true_or, or_true, false_or]
theorem m_stopOf {sc : Int32 × (Int32 → Int32)} {f : zF} {a : zA} {j : zJ} {d w g : Nat} {σ : Nat → Nat} {tr : Bool} (hV : VR σ) (hT : TuO σ w tr f a) (hg : g < σ 0) : cf sc (d + 1) 42 [.ref 54, .int (nI g)] f a j = some (some (.int (endF σ w tr g)), f, a, j) := by
  have hn := hV.1
  have hl := oL_le hV w
  have ix1 : zIx 21 61 (nI g) := ix61 (by omega)
  have ix2 : zIx 21 63 (nI g) := ix63 (by omega)
  have e1 := hT.2.2.2.2.2.2.2.2.2.1 g (by omega)
  rw [en42]
  unfold endF
  rcases pl_cases hV w g with ⟨i, h1, h2, h3⟩ | ⟨-, h3⟩
  · have hi : i < 2 ^ 31 := by omega
    have e2 := (hT.2.2.2.2.2.2.2.2.2.2 i h1).2
    rw [tmS_s, h2] at e2
    rw [ix_of hi h3, h3]
    rw [h3] at e1
    simp only [q42_0, q42_1, q42_4, q42_5, q42_6, q42_8, q42_11, q42_13, q42_16, q42_17, q42_20, q42_21, q42_22, ix1, ix2, e1, e2, nI_n5 hi, zCall_some, Option.toList, List.cons_append, List.nil_append, zb_0, zb_1, zem, z01, z11, nI_add, ↓reduceIte, not_true_eq_false, not_false_eq_true, n0T, n1F, n11T, true_or, or_true, false_or]
    rfl
  · rw [h3] at e1 ⊢
    simp only [q42_0, q42_1, q42_4, q42_5, q42_6, q42_8, q42_11, q42_13, q42_16, q42_17, q42_20, q42_21, q42_22, ix1, e1, zCall_some, Option.toList, List.cons_append, List.nil_append, zb_0, zb_1, zem, z01, z11, nI_add, ↓reduceIte, not_true_eq_false, not_false_eq_true, n0T, n1F, n11T, true_or, or_true, false_or]
theorem ngC_s (z m : Nat) : ngC z (m + 1) = ngC z m + (if ngB (z + m) = true then 1 else 0) := rfl
theorem m_nightHours {sc : Int32 × (Int32 → Int32)} {f : zF} {a : zA} {j : zJ} {d w g : Nat} {σ : Nat → Nat} {tr : Bool} (hV : VR σ) (hw : w ≤ 1010) (hTr : tr = true → TrOK σ w) (hT : TuO σ w tr f a) (hg : g < σ 0) : cf sc (d + 1) 44 [.ref 54, .int (nI g)] f a j = some (some (.int (nI (ngF σ w tr g))), f, a, j) := by
  have hn := hV.1
  have hl := oL_le hV w
  have ix1 : zIx 21 61 (nI g) := ix61 (by omega)
  have ix2 : zIx 21 62 (nI g) := ix62 (by omega)
  have ix3 : zIx 21 63 (nI g) := ix63 (by omega)
  have e1 := hT.2.2.2.2.2.2.2.2.2.1 g (by omega)
  have e13 := hT.2.2.2.2.1
  rw [en44]
  unfold ngF
  rcases pl_cases hV w g with ⟨i, h1, h2, h3⟩ | ⟨-, h3⟩
  · have hi : i < 2 ^ 31 := by omega
    have e2 := (hT.2.2.2.2.2.2.2.2.2.2 i h1).1
    have e3 := (hT.2.2.2.2.2.2.2.2.2.2 i h1).2
    rw [tmS_s, h2] at e3
    rw [h2] at e2
    have hst := st_le hV hTr h1
    have hhv := hv_97 hV hTr hg
    have e2 : a 62 (nI g) = nI (stN σ w tr i) := e2
    have e3 : a 63 (nI g) = nI (stN σ w tr i + hvOf σ w tr g) := e3
    rw [ix_of hi h3, h3]
    rw [h3] at e1
    have key := zLoopP (n := hvOf σ w tr g) (g := fun s : (Nat × Value) => rn sc (cf sc d) 44 22 [.ref 54, .int (nI g), .int (nI (ngC (w * σ 1 + stN σ w tr i) s.1)), .int (nI (stN σ w tr i + s.1)), s.2] [] f a j) (P := fun i s => s.1 = i) (by
      intro m s hm hP
      obtain ⟨m', v⟩ := s
      have hP : m' = m := hP
      subst hP
      refine ⟨(m' + 1, .int (nI ((w * σ 1 % 24 + (stN σ w tr i + m')) % 24))), rfl, ?_⟩
      have c1 : ¬ nI (stN σ w tr i + hvOf σ w tr g) ≤ nI (stN σ w tr i + m') := nI_ge (by omega) (by omega)
      have h24 : nI 24 ≠ 0 := by decide
      have er : nI (w * σ 1 % 24 + (stN σ w tr i + m')) - nI (w * σ 1 % 24 + (stN σ w tr i + m')) / nI 24 * nI 24 = nI ((w * σ 1 % 24 + (stN σ w tr i + m')) % 24) := pk_rem (by omega) (by omega) (by omega)
      have em : (w * σ 1 % 24 + (stN σ w tr i + m')) % 24 = (w * σ 1 + stN σ w tr i + m') % 24 := by omega
      dsimp only
      rw [q44_22, ngC_s]
      unfold ngB
      rw [em] at er ⊢
      have hC24 : (w * σ 1 + stN σ w tr i + m') % 24 < 24 := Nat.mod_lt _ (by omega)
      generalize (w * σ 1 + stN σ w tr i + m') % 24 = C at er hC24 ⊢
      by_cases n1 : 18 ≤ C
      · have k1 : nI 18 ≤ nI C := nI_le n1 (by omega)
        simp only [q44_0, q44_1, q44_4, q44_5, q44_6, q44_8, q44_11, q44_12, q44_13, q44_14, q44_15, q44_16, q44_19, q44_20, q44_21, q44_23, q44_24, q44_27, q44_28, q44_29, q44_32, q44_33, q44_36, q44_37, q44_38, q44_40, q44_41, q44_43, q44_45, q44_47, q44_50, q44_52, q44_54, q44_57, q44_60, q44_63, q44_66, q44_67, ix3, e3, e13, c1, h24, er, k1, n1, true_or, decide_true, Nat.add_assoc, ne_eq, zCall_some, Option.toList, List.cons_append, List.nil_append, zb_0, zb_1, zem, z01, z11, nI_add, ↓reduceIte, not_true_eq_false, not_false_eq_true, n0T, n1F, n11T, true_or, or_true, false_or]
      · have k1 : ¬ nI 18 ≤ nI C := nI_ge (by omega) (by omega)
        by_cases n2 : C < 6
        · have k2 : ¬ nI 6 ≤ nI C := nI_ge n2 (by omega)
          simp only [q44_0, q44_1, q44_4, q44_5, q44_6, q44_8, q44_11, q44_12, q44_13, q44_14, q44_15, q44_16, q44_19, q44_20, q44_21, q44_23, q44_24, q44_27, q44_28, q44_29, q44_32, q44_33, q44_36, q44_37, q44_38, q44_40, q44_41, q44_43, q44_45, q44_47, q44_50, q44_52, q44_54, q44_57, q44_60, q44_63, q44_66, q44_67, ix3, e3, e13, c1, h24, er, k1, k2, n2, or_true, decide_true, Nat.add_assoc, ne_eq, zCall_some, Option.toList, List.cons_append, List.nil_append, zb_0, zb_1, zem, z01, z11, nI_add, ↓reduceIte, not_true_eq_false, not_false_eq_true, n0T, n1F, n11T, true_or, or_true, false_or]
        · have k2 : nI 6 ≤ nI C := nI_le (by omega) (by omega)
          simp only [q44_0, q44_1, q44_4, q44_5, q44_6, q44_8, q44_11, q44_12, q44_13, q44_14, q44_15, q44_16, q44_19, q44_20, q44_21, q44_23, q44_24, q44_27, q44_28, q44_29, q44_32, q44_33, q44_36, q44_37, q44_38, q44_40, q44_41, q44_43, q44_45, q44_47, q44_50, q44_52, q44_54, q44_57, q44_60, q44_63, q44_66, q44_67, ix3, e3, e13, c1, h24, er, k1, k2, n1, n2, or_self, decide_false, Bool.false_eq_true, Nat.add_assoc, Nat.add_zero, ne_eq, zCall_some, Option.toList, List.cons_append, List.nil_append, zb_0, zb_1, zem, z01, z11, nI_add, ↓reduceIte, not_true_eq_false, not_false_eq_true, n0T, n1F, n11T, true_or, or_true, false_or]) (0, .null) rfl
    obtain ⟨⟨m, v⟩, hm, e⟩ := key
    have hm : m = hvOf σ w tr g := hm
    subst hm
    have c1 : nI (stN σ w tr i + hvOf σ w tr g) ≤ nI (stN σ w tr i + hvOf σ w tr g) := nI_le (Nat.le_refl _) (by omega)
    rw [if_neg (nI_n5 hi)]
    simp only [q44_0, q44_1, q44_4, q44_5, q44_6, q44_8, q44_11, q44_12, q44_13, q44_14, q44_15, q44_16, q44_19, q44_20, q44_21, q44_23, q44_24, q44_27, q44_28, q44_29, q44_32, q44_33, q44_36, q44_37, q44_38, q44_40, q44_41, q44_43, q44_45, q44_47, q44_50, q44_52, q44_54, q44_57, q44_60, q44_63, q44_66, q44_67, ix1, ix2, e1, e2, nI_n5 hi, zCall_some, Option.toList, List.cons_append, List.nil_append, zb_0, zb_1, zem, z01, z11, nI_add, ↓reduceIte, not_true_eq_false, not_false_eq_true, n0T, n1F, n11T, true_or, or_true, false_or]
    refine Eq.trans (show _ = _ from e) ?_
    dsimp only
    simp only [q44_22, q44_23, q44_24, q44_27, q44_28, q44_29, q44_66, q44_67, ix3, e3, c1, zCall_some, Option.toList, List.cons_append, List.nil_append, zb_0, zb_1, zem, z01, z11, nI_add, ↓reduceIte, not_true_eq_false, not_false_eq_true, n0T, n1F, n11T, true_or, or_true, false_or]
  · rw [h3] at e1 ⊢
    simp only [q44_0, q44_1, q44_4, q44_5, q44_6, q44_8, q44_11, q44_12, q44_13, q44_14, q44_15, q44_16, q44_19, q44_20, q44_21, q44_22, q44_23, q44_24, q44_27, q44_28, q44_29, q44_32, q44_33, q44_36, q44_37, q44_38, q44_40, q44_41, q44_43, q44_45, q44_47, q44_50, q44_52, q44_54, q44_57, q44_60, q44_63, q44_66, q44_67, ix1, e1, zCall_some, Option.toList, List.cons_append, List.nil_append, zb_0, zb_1, zem, z01, z11, nI_add, ↓reduceIte, not_true_eq_false, not_false_eq_true, n0T, n1F, n11T, true_or, or_true, false_or]
theorem m_allHours {sc : Int32 × (Int32 → Int32)} {f : zF} {a : zA} {j : zJ} {d w : Nat} {σ : Nat → Nat} {tr : Bool} (hV : VR σ) (hT : TuO σ w tr f a) : cf sc (d + 1) 45 [.ref 54] f a j = some (some (.int (nI (sumF (hvOf σ w tr) (σ 0)))), f, a, j) := by
  have hn := hV.1
  have key := zLoop (n := σ 0) (g := fun i => rn sc (cf sc d) 45 4 [.ref 54, .int (nI (sumF (hvOf σ w tr) i)), .int (nI i)] [] f a j) (by
    intro i hi
    have c1 : ¬ nI (σ 0) ≤ nI i := nI_ge hi (by omega)
    have ix1 : zIx 21 58 (nI i) := ix58 (by omega)
    rw [q45_4, sumF_s]
    simp only [q45_0, q45_1, q45_2, q45_3, q45_5, q45_6, q45_9, q45_12, q45_13, q45_14, q45_17, q45_18, q45_19, q45_20, q45_21, q45_24, q45_27, q45_28, hT.1, c1, ix1, hT.2.2.2.2.2.2.2.2.1 i hi, zCall_some, Option.toList, List.cons_append, List.nil_append, zb_0, zb_1, zem, z01, z11, nI_add, ↓reduceIte, not_true_eq_false, not_false_eq_true, n0T, n1F, n11T, true_or, or_true, false_or])
  rw [en45, q45_0, q45_1, q45_2, q45_3]
  refine Eq.trans (show _ = _ from key) ?_
  have c1 : nI (σ 0) ≤ nI (σ 0) := nI_le (Nat.le_refl _) (by omega)
  simp only [q45_4, q45_5, q45_6, q45_9, q45_27, q45_28, hT.1, c1, zCall_some, Option.toList, List.cons_append, List.nil_append, zb_0, zb_1, zem, z01, z11, nI_add, ↓reduceIte, not_true_eq_false, not_false_eq_true, n0T, n1F, n11T, true_or, or_true, false_or]
theorem m_allNight {sc : Int32 × (Int32 → Int32)} {f : zF} {a : zA} {j : zJ} {d w : Nat} {σ : Nat → Nat} {tr : Bool} (hV : VR σ) (hw : w ≤ 1010) (hTr : tr = true → TrOK σ w) (hT : TuO σ w tr f a) : cf sc (d + 2) 46 [.ref 54] f a j = some (some (.int (nI (sumF (ngF σ w tr) (σ 0)))), f, a, j) := by
  have hn := hV.1
  have key := zLoop (n := σ 0) (g := fun i => rn sc (cf sc (d + 1)) 46 4 [.ref 54, .int (nI (sumF (ngF σ w tr) i)), .int (nI i)] [] f a j) (by
    intro i hi
    have c1 : ¬ nI (σ 0) ≤ nI i := nI_ge hi (by omega)
    rw [q46_4, sumF_s]
    simp only [q46_0, q46_1, q46_2, q46_3, q46_5, q46_6, q46_9, q46_12, q46_13, q46_14, q46_15, q46_18, q46_19, q46_20, q46_23, q46_26, q46_27, hT.1, c1, m_nightHours hV hw hTr hT hi, zCall_some, Option.toList, List.cons_append, List.nil_append, zb_0, zb_1, zem, z01, z11, nI_add, ↓reduceIte, not_true_eq_false, not_false_eq_true, n0T, n1F, n11T, true_or, or_true, false_or])
  rw [en46, q46_0, q46_1, q46_2, q46_3]
  refine Eq.trans (show _ = _ from key) ?_
  have c1 : nI (σ 0) ≤ nI (σ 0) := nI_le (Nat.le_refl _) (by omega)
  simp only [q46_4, q46_5, q46_6, q46_9, q46_26, q46_27, hT.1, c1, zCall_some, Option.toList, List.cons_append, List.nil_append, zb_0, zb_1, zem, z01, z11, nI_add, ↓reduceIte, not_true_eq_false, not_false_eq_true, n0T, n1F, n11T, true_or, or_true, false_or]
theorem kpF_s (σ : Nat → Nat) (r : Nat) : kpF σ (r + 1) = kpF σ r - σ (12 + r) := rfl
theorem kpF_ge {σ : Nat → Nat} (hV : VR σ) : ∀ r, r ≤ 4 → 100 ≤ kpF σ r + 25 * r
  | 0, _ => Nat.le_refl _
  | r + 1, h => by
    have ih := kpF_ge hV r (by omega)
    have h1 := (hV.2.2.2 r (by omega)).2
    rw [kpF_s]
    omega
theorem m_kept {sc : Int32 × (Int32 → Int32)} {f : zF} {a : zA} {j : zJ} {d c g : Nat} {σ : Nat → Nat} (hc : isC c) (hV : VR σ) (hR : CR0 c σ f a) (hg : g < σ 0) : cf sc (d + 1) 7 [.ref c, .int (nI g)] f a j = some (some (.int (nI (kpF σ (σ (16 + g) + 1)))), f, a, j) := by
  have hn := hV.1
  have h4 := (hV.2.2.1 g hg).1
  have ix3 : zIx 21 (c + 3) (nI g) := ixC3 hc (by omega)
  have key := zLoop (n := σ (16 + g) + 1) (g := fun r => rn sc (cf sc d) 7 5 [.ref c, .int (nI g), .int (nI (kpF σ r)), .int (nI r)] [] f a j) (by
    intro r hr
    have c1 : ¬ nI (σ (16 + g)) < nI r := nI_nlt (by omega) (by omega)
    have c2 : ¬ nI 4 ≤ nI r := nI_ge (by omega) (by omega)
    have ix2 : zIx 21 (c + 2) (nI r) := ixC2 hc (by omega)
    have hk := kpF_ge hV r (by omega)
    have hl := (hV.2.2.2 r (by omega)).2
    have s1 : nI (kpF σ r) - nI (σ (12 + r)) = nI (kpF σ r - σ (12 + r)) := pk_sub (by omega)
    rw [q7_5, kpF_s]
    simp only [q7_0, q7_2, q7_3, q7_4, q7_6, q7_7, q7_10, q7_11, q7_12, q7_15, q7_16, q7_17, q7_20, q7_21, q7_22, q7_25, q7_26, q7_27, q7_28, q7_29, q7_32, q7_35, q7_36, hc, ix3, ix2, (hR.2.2.2.1 g hg).1, (hR.2.2.1 r (by omega)).2, c1, c2, s1, zCall_some, Option.toList, List.cons_append, List.nil_append, zb_0, zb_1, zem, z01, z11, nI_add, ↓reduceIte, not_true_eq_false, not_false_eq_true, n0T, n1F, n11T, true_or, or_true, false_or])
  rw [en7, q7_0, q7_2, q7_3, q7_4]
  refine Eq.trans (show _ = _ from key) ?_
  have c1 : nI (σ (16 + g)) < nI (σ (16 + g) + 1) := nI_lt (by omega) (by omega)
  simp only [q7_5, q7_6, q7_7, q7_10, q7_11, q7_12, q7_35, q7_36, hc, ix3, (hR.2.2.2.1 g hg).1, c1, zCall_some, Option.toList, List.cons_append, List.nil_append, zb_0, zb_1, zem, z01, z11, nI_add, ↓reduceIte, not_true_eq_false, not_false_eq_true, n0T, n1F, n11T, true_or, or_true, false_or]
theorem m_allWater {sc : Int32 × (Int32 → Int32)} {f : zF} {a : zA} {j : zJ} {d c w : Nat} {σ : Nat → Nat} {tr : Bool} (hc : isC c) (hV : VR σ) (hR : CR0 c σ f a) (hT : TuO σ w tr f a) : cf sc (d + 2) 47 [.ref 54, .ref c] f a j = some (some (.int (nI (sumF (waF σ w tr) (σ 0)))), f, a, j) := by
  have hn := hV.1
  have key := zLoop (n := σ 0) (g := fun i => rn sc (cf sc (d + 1)) 47 4 [.ref 54, .ref c, .int (nI (sumF (waF σ w tr) i)), .int (nI i)] [] f a j) (by
    intro i hi
    have c1 : ¬ nI (σ 0) ≤ nI i := nI_ge hi (by omega)
    have ix1 : zIx 21 58 (nI i) := ix58 (by omega)
    rw [q47_4, sumF_s]
    simp only [q47_0, q47_1, q47_2, q47_3, q47_5, q47_6, q47_9, q47_12, q47_13, q47_14, q47_17, q47_18, q47_19, q47_20, q47_21, q47_24, q47_25, q47_26, q47_27, q47_30, q47_33, q47_34, hc, hT.1, c1, ix1, hT.2.2.2.2.2.2.2.2.1 i hi, m_kept hc hV hR hi, pk_mul, waF, zCall_some, Option.toList, List.cons_append, List.nil_append, zb_0, zb_1, zem, z01, z11, nI_add, ↓reduceIte, not_true_eq_false, not_false_eq_true, n0T, n1F, n11T, true_or, or_true, false_or])
  rw [en47, q47_0, q47_1, q47_2, q47_3]
  refine Eq.trans (show _ = _ from key) ?_
  have c1 : nI (σ 0) ≤ nI (σ 0) := nI_le (Nat.le_refl _) (by omega)
  simp only [q47_4, q47_5, q47_6, q47_9, q47_33, q47_34, hT.1, c1, zCall_some, Option.toList, List.cons_append, List.nil_append, zb_0, zb_1, zem, z01, z11, nI_add, ↓reduceIte, not_true_eq_false, not_false_eq_true, n0T, n1F, n11T, true_or, or_true, false_or]
def cnF (σ : Nat → Nat) (r : Nat) : Nat → Nat := ctI σ r
theorem m_fieldsOn {sc : Int32 × (Int32 → Int32)} {f : zF} {a : zA} {j : zJ} {d c r : Nat} {σ : Nat → Nat} (hc : isC c) (hV : VR σ) (hR : CR0 c σ f a) (hr : r < 4) : cf sc (d + 1) 3 [.ref c, .int (nI r)] f a j = some (some (.int (nI (ctI σ r (σ 0)))), f, a, j) := by
  have hn := hV.1
  have key := zLoop (n := σ 0) (g := fun i => rn sc (cf sc d) 3 4 [.ref c, .int (nI r), .int (nI (ctI σ r i)), .int (nI i)] [] f a j) (by
    intro i hi
    have c1 : ¬ nI (σ 0) ≤ nI i := nI_ge hi (by omega)
    have ix3 : zIx 21 (c + 3) (nI i) := ixC3 hc (by omega)
    have h4 := (hV.2.2.1 i hi).1
    have e1 : (nI (σ (16 + i)) = nI r) = (σ (16 + i) = r) := propext (nI_eq (by omega) (by omega))
    rw [q3_4, ctI_s]
    by_cases h : σ (16 + i) = r
    · simp only [q3_0, q3_1, q3_2, q3_3, q3_5, q3_6, q3_9, q3_12, q3_13, q3_16, q3_17, q3_18, q3_19, q3_22, q3_25, q3_28, q3_31, q3_32, hc, hR.1, c1, ix3, (hR.2.2.2.1 i hi).1, e1, h, zCall_some, Option.toList, List.cons_append, List.nil_append, zb_0, zb_1, zem, z01, z11, nI_add, ↓reduceIte, not_true_eq_false, not_false_eq_true, n0T, n1F, n11T, true_or, or_true, false_or]
    · simp only [q3_0, q3_1, q3_2, q3_3, q3_5, q3_6, q3_9, q3_12, q3_13, q3_16, q3_17, q3_18, q3_19, q3_22, q3_25, q3_28, q3_31, q3_32, hc, hR.1, c1, ix3, (hR.2.2.2.1 i hi).1, e1, h, Nat.add_zero, zCall_some, Option.toList, List.cons_append, List.nil_append, zb_0, zb_1, zem, z01, z11, nI_add, ↓reduceIte, not_true_eq_false, not_false_eq_true, n0T, n1F, n11T, true_or, or_true, false_or])
  rw [en3, q3_0, q3_1, q3_2, q3_3]
  refine Eq.trans (show _ = _ from key) ?_
  have c1 : nI (σ 0) ≤ nI (σ 0) := nI_le (Nat.le_refl _) (by omega)
  simp only [q3_4, q3_5, q3_6, q3_9, q3_31, q3_32, hc, hR.1, c1, zCall_some, Option.toList, List.cons_append, List.nil_append, zb_0, zb_1, zem, z01, z11, nI_add, ↓reduceIte, not_true_eq_false, not_false_eq_true, n0T, n1F, n11T, true_or, or_true, false_or]
