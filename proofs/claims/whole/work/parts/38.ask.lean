/-! ===== the class: what is asked of the Turns ===== -/
/-- BEGINS, ENDS, hours by NIGHT, WATER -/
def ixI (σ : Nat → Nat) (w g : Nat) : Nat := (plS σ w (σ 0) g).toNatClampNeg
def stN (σ : Nat → Nat) (w : Nat) (tr : Bool) (i : Nat) : Nat := tmS σ (oL σ w) (hvOf σ w tr) i + lgA σ (oL σ w) i
def begF (σ : Nat → Nat) (w : Nat) (tr : Bool) (g : Nat) : Int32 := if plS σ w (σ 0) g = -5 then -5 else nI (stN σ w tr (ixI σ w g))
def endF (σ : Nat → Nat) (w : Nat) (tr : Bool) (g : Nat) : Int32 := if plS σ w (σ 0) g = -5 then -5 else nI (stN σ w tr (ixI σ w g) + hvOf σ w tr g)
def ngF (σ : Nat → Nat) (w : Nat) (tr : Bool) (g : Nat) : Nat := if plS σ w (σ 0) g = -5 then 0 else ngC (w * σ 1 + stN σ w tr (ixI σ w g)) (hvOf σ w tr g)
def kpF (σ : Nat → Nat) : Nat → Nat
  | 0 => 100
  | r + 1 => kpF σ r - σ (12 + r)
def waF (σ : Nat → Nat) (w : Nat) (tr : Bool) (g : Nat) : Nat := hvOf σ w tr g * kpF σ (σ (16 + g) + 1)
theorem hv_97 {σ : Nat → Nat} (hV : VR σ) {w : Nat} {tr : Bool} (hT : tr = true → TrOK σ w) {g : Nat} (hg : g < σ 0) : hvOf σ w tr g ≤ 97 := by
  have h1 := sumF_le (x := hvOf σ w tr) (σ 0) hg
  have h2 := hv_sum (σ := σ) (w := w) (tr := tr) hT
  have h3 : leftOf σ w ≤ 97 := by unfold leftOf; have := hV.2.1; omega
  omega
theorem tm_le {σ : Nat → Nat} (hV : VR σ) {w : Nat} {tr : Bool} (hT : tr = true → TrOK σ w) : ∀ i, i ≤ (oL σ w).length → tmS σ (oL σ w) (hvOf σ w tr) i ≤ 133 * i
  | 0, _ => Nat.le_refl _
  | i + 1, hi => by
    have ih := tm_le hV hT i (by omega)
    have hl := oL_lt hV (w := w) (i := i) (by omega)
    have h1 := lgA_le hV (L := oL σ w) (i := i) (hV.2.2.1 _ hl).1
    have h2 := hv_97 hV hT hl
    rw [tmS_s]
    omega
theorem st_le {σ : Nat → Nat} (hV : VR σ) {w : Nat} {tr : Bool} (hT : tr = true → TrOK σ w) {i : Nat} (hi : i < (oL σ w).length) : stN σ w tr i ≤ 1100 := by
  have h1 := tm_le hV hT i (by omega)
  have h2 := lgA_le hV (L := oL σ w) (i := i) (hV.2.2.1 _ (oL_lt hV hi)).1
  have h3 := oL_le hV w
  unfold stN
  omega
theorem ix_of {σ : Nat → Nat} {w g i : Nat} (hi : i < 2 ^ 31) (h : plS σ w (σ 0) g = nI i) : ixI σ w g = i := by
  unfold ixI
  rw [h, nI_clamp hi]
theorem m_placeOf {sc : Int32 × (Int32 → Int32)} {f : zF} {a : zA} {j : zJ} {d w g : Nat} {σ : Nat → Nat} {tr : Bool} (hT : TuO σ w tr f a) (hg : g < 8) : cf sc (d + 3) 44 [.ref 54, .int (nI g)] f a j = some (some (.int (plS σ w (σ 0) g)), f, a, j) := by
  have ix1 : zIx 21 61 (nI g) := ix61 hg
  rw [en44]
  simp only [q44_0, q44_1, q44_4, q44_7, q44_8, q44_11, q44_12, q44_13, q44_16, q44_18, m_canB hg, ix1, hT.2.2.2.2.2.2.2.2.2.1 g hg, zCall_some, Option.toList, List.cons_append, List.nil_append, zb_0, zb_1, zem, z01, z11, nI_add, ↓reduceIte, not_true_eq_false, not_false_eq_true, n0T, n1F, n11T, true_or, or_true, false_or]
theorem m_hvOf {sc : Int32 × (Int32 → Int32)} {f : zF} {a : zA} {j : zJ} {d w g : Nat} {σ : Nat → Nat} {tr : Bool} (hV : VR σ) (hT : TuO σ w tr f a) (hg : g < σ 0) : cf sc (d + 3) 43 [.ref 54, .int (nI g)] f a j = some (some (.int (nI (hvOf σ w tr g))), f, a, j) := by
  have hn := hV.1
  rw [m_hoursOf (by omega), hT.2.2.2.2.2.2.2.2.1 g hg]
theorem pl_in {i m : Nat} (h : i < m) (hm : m ≤ 8) : (¬ nI i < nI 0 ∧ ¬ nI m - nI 1 < nI i) = True := by
  rw [pk_sub (show 1 ≤ m by omega)]
  exact eq_true ⟨nI_nlt (by omega) (by omega), nI_nlt (by omega) (by omega)⟩
theorem pl_no {x : Int32} : (¬ (-5 : Int32) < nI 0 ∧ ¬ x < -5) = False := eq_false (fun h => h.1 (by decide))
theorem m_startOf {sc : Int32 × (Int32 → Int32)} {f : zF} {a : zA} {j : zJ} {d w g : Nat} {σ : Nat → Nat} {tr : Bool} (hV : VR σ) (hT : TuO σ w tr f a) (hg : g < σ 0) : cf sc (d + 4) 45 [.ref 54, .int (nI g)] f a j = some (some (.int (begF σ w tr g)), f, a, j) := by
  have hn := hV.1
  have hl := oL_le hV w
  have e1 := m_placeOf (sc := sc) (d := d) (j := j) hT (show g < 8 by omega)
  have e0 : f 54 10 = nI (oL σ w).length := hT.2.1
  rw [en45]
  unfold begF
  rcases pl_cases hV w g with ⟨i, h1, h2, h3⟩ | ⟨-, h3⟩
  · have hi : i < 2 ^ 31 := by omega
    have ix2 : zIx 21 62 (nI i) := ix62 (by omega)
    have e2 := (hT.2.2.2.2.2.2.2.2.2.2.1 i h1).1
    rw [ix_of hi h3, h3]
    rw [h3] at e1
    simp only [q45_0, q45_1, q45_2, q45_5, q45_6, q45_7, q45_8, q45_9, q45_12, q45_13, q45_14, q45_17, q45_20, q45_21, q45_24, q45_25, q45_26, q45_29, q45_31, e1, e0, m_isWithin, pl_in h1 hl, zb_t, ix2, e2, nI_n5 hi, zCall_some, Option.toList, List.cons_append, List.nil_append, zb_0, zb_1, zem, z01, z11, nI_add, ↓reduceIte, not_true_eq_false, not_false_eq_true, n0T, n1F, n11T, true_or, or_true, false_or]
    rfl
  · rw [h3] at e1 ⊢
    simp only [q45_0, q45_1, q45_2, q45_5, q45_6, q45_7, q45_8, q45_9, q45_12, q45_13, q45_14, q45_17, q45_20, q45_21, q45_24, q45_25, q45_26, q45_29, q45_31, e1, e0, m_isWithin, pl_no, zb_0, zCall_some, Option.toList, List.cons_append, List.nil_append, zb_0, zb_1, zem, z01, z11, nI_add, ↓reduceIte, not_true_eq_false, not_false_eq_true, n0T, n1F, n11T, true_or, or_true, false_or]
theorem m_stopOf {sc : Int32 × (Int32 → Int32)} {f : zF} {a : zA} {j : zJ} {d w g : Nat} {σ : Nat → Nat} {tr : Bool} (hV : VR σ) (hT : TuO σ w tr f a) (hg : g < σ 0) : cf sc (d + 4) 46 [.ref 54, .int (nI g)] f a j = some (some (.int (endF σ w tr g)), f, a, j) := by
  have hn := hV.1
  have hl := oL_le hV w
  have e1 := m_placeOf (sc := sc) (d := d) (j := j) hT (show g < 8 by omega)
  have e0 : f 54 10 = nI (oL σ w).length := hT.2.1
  rw [en46]
  unfold endF
  rcases pl_cases hV w g with ⟨i, h1, h2, h3⟩ | ⟨-, h3⟩
  · have hi : i < 2 ^ 31 := by omega
    have ix2 : zIx 21 63 (nI i) := ix63 (by omega)
    have e2 := (hT.2.2.2.2.2.2.2.2.2.2.1 i h1).2
    rw [tmS_s, h2] at e2
    rw [ix_of hi h3, h3]
    rw [h3] at e1
    simp only [q46_0, q46_1, q46_2, q46_5, q46_6, q46_7, q46_8, q46_9, q46_12, q46_13, q46_14, q46_17, q46_20, q46_21, q46_24, q46_25, q46_26, q46_29, q46_31, e1, e0, m_isWithin, pl_in h1 hl, zb_t, ix2, e2, nI_n5 hi, zCall_some, Option.toList, List.cons_append, List.nil_append, zb_0, zb_1, zem, z01, z11, nI_add, ↓reduceIte, not_true_eq_false, not_false_eq_true, n0T, n1F, n11T, true_or, or_true, false_or]
    rfl
  · rw [h3] at e1 ⊢
    simp only [q46_0, q46_1, q46_2, q46_5, q46_6, q46_7, q46_8, q46_9, q46_12, q46_13, q46_14, q46_17, q46_20, q46_21, q46_24, q46_25, q46_26, q46_29, q46_31, e1, e0, m_isWithin, pl_no, zb_0, zCall_some, Option.toList, List.cons_append, List.nil_append, zb_0, zb_1, zem, z01, z11, nI_add, ↓reduceIte, not_true_eq_false, not_false_eq_true, n0T, n1F, n11T, true_or, or_true, false_or]
theorem ngC_s (z m : Nat) : ngC z (m + 1) = ngC z m + (if ngB (z + m) = true then 1 else 0) := rfl
theorem m_nightHours {sc : Int32 × (Int32 → Int32)} {f : zF} {a : zA} {j : zJ} {d w g : Nat} {σ : Nat → Nat} {tr : Bool} (hV : VR σ) (hw : w ≤ 1010) (hTr : tr = true → TrOK σ w) (hT : TuO σ w tr f a) (hg : g < σ 0) : cf sc (d + 5) 48 [.ref 54, .int (nI g)] f a j = some (some (.int (nI (ngF σ w tr g))), f, a, j) := by
  have hn := hV.1
  have hl := oL_le hV w
  have e13 := hT.2.2.2.2.1
  have eB := m_startOf (sc := sc) (d := d) (j := j) hV hT hg
  have eE := m_stopOf (sc := sc) (d := d) (j := j) hV hT hg
  rw [en48]
  unfold ngF
  unfold begF at eB
  unfold endF at eE
  rcases pl_cases hV w g with ⟨i, h1, h2, h3⟩ | ⟨-, h3⟩
  · have hi : i < 2 ^ 31 := by omega
    have hst := st_le hV hTr h1
    have hhv := hv_97 hV hTr hg
    rw [ix_of hi h3, h3, if_neg (nI_n5 hi)] at eB eE
    rw [ix_of hi h3, h3, if_neg (nI_n5 hi)]
    have key := zLoopP (n := hvOf σ w tr g) (g := fun s : (Nat × Value) => rn sc (cf sc (d + 4)) 48 15 [.ref 54, .int (nI g), .int (nI (ngC (w * σ 1 + stN σ w tr i) s.1)), .int (nI (stN σ w tr i + hvOf σ w tr g)), .int (nI (stN σ w tr i + s.1)), s.2] [] f a j) (P := fun i s => s.1 = i) (by
      intro m s hm hP
      obtain ⟨m', v⟩ := s
      have hP : m' = m := hP
      subst hP
      refine ⟨(m' + 1, .int (nI ((w * σ 1 % 24 + (stN σ w tr i + m')) % 24))), rfl, ?_⟩
      have c1 : ¬ nI (stN σ w tr i + hvOf σ w tr g) ≤ nI (stN σ w tr i + m') := nI_ge (by omega) (by omega)
      have h24 : nI 24 ≠ 0 := by decide
      have er : nI (w * σ 1 % 24 + (stN σ w tr i + m')) - nI (w * σ 1 % 24 + (stN σ w tr i + m')) / nI 24 * nI 24 = nI ((w * σ 1 % 24 + (stN σ w tr i + m')) % 24) := pk_rem (by omega) (by omega) (by omega)
      have em : (w * σ 1 % 24 + (stN σ w tr i + m')) % 24 = (w * σ 1 + stN σ w tr i + m') % 24 := by omega
      dsimp only
      rw [q48_15, ngC_s]
      unfold ngB
      rw [em] at er ⊢
      have hC24 : (w * σ 1 + stN σ w tr i + m') % 24 < 24 := Nat.mod_lt _ (by omega)
      generalize (w * σ 1 + stN σ w tr i + m') % 24 = C at er hC24 ⊢
      by_cases n1 : 18 ≤ C
      · have k1 : nI 18 ≤ nI C := nI_le n1 (by omega)
        simp only [q48_0, q48_1, q48_2, q48_3, q48_4, q48_7, q48_8, q48_9, q48_10, q48_13, q48_17, q48_18, q48_21, q48_22, q48_25, q48_27, q48_28, q48_30, q48_31, q48_33, q48_35, q48_37, q48_40, q48_42, q48_44, q48_47, q48_50, q48_53, q48_56, q48_57, e13, c1, h24, er, k1, n1, true_or, decide_true, Nat.add_assoc, ne_eq, zCall_some, Option.toList, List.cons_append, List.nil_append, zb_0, zb_1, zem, z01, z11, nI_add, ↓reduceIte, not_true_eq_false, not_false_eq_true, n0T, n1F, n11T, true_or, or_true, false_or]
      · have k1 : ¬ nI 18 ≤ nI C := nI_ge (by omega) (by omega)
        by_cases n2 : C < 6
        · have k2 : ¬ nI 6 ≤ nI C := nI_ge n2 (by omega)
          simp only [q48_0, q48_1, q48_2, q48_3, q48_4, q48_7, q48_8, q48_9, q48_10, q48_13, q48_17, q48_18, q48_21, q48_22, q48_25, q48_27, q48_28, q48_30, q48_31, q48_33, q48_35, q48_37, q48_40, q48_42, q48_44, q48_47, q48_50, q48_53, q48_56, q48_57, e13, c1, h24, er, k1, k2, n2, or_true, decide_true, Nat.add_assoc, ne_eq, zCall_some, Option.toList, List.cons_append, List.nil_append, zb_0, zb_1, zem, z01, z11, nI_add, ↓reduceIte, not_true_eq_false, not_false_eq_true, n0T, n1F, n11T, true_or, or_true, false_or]
        · have k2 : nI 6 ≤ nI C := nI_le (by omega) (by omega)
          simp only [q48_0, q48_1, q48_2, q48_3, q48_4, q48_7, q48_8, q48_9, q48_10, q48_13, q48_17, q48_18, q48_21, q48_22, q48_25, q48_27, q48_28, q48_30, q48_31, q48_33, q48_35, q48_37, q48_40, q48_42, q48_44, q48_47, q48_50, q48_53, q48_56, q48_57, e13, c1, h24, er, k1, k2, n1, n2, or_self, decide_false, Bool.false_eq_true, Nat.add_assoc, Nat.add_zero, ne_eq, zCall_some, Option.toList, List.cons_append, List.nil_append, zb_0, zb_1, zem, z01, z11, nI_add, ↓reduceIte, not_true_eq_false, not_false_eq_true, n0T, n1F, n11T, true_or, or_true, false_or]) (0, .null) rfl
    obtain ⟨⟨m, v⟩, hm, e⟩ := key
    have hm : m = hvOf σ w tr g := hm
    subst hm
    have c1 : nI (stN σ w tr i + hvOf σ w tr g) ≤ nI (stN σ w tr i + hvOf σ w tr g) := nI_le (Nat.le_refl _) (by omega)
    simp only [q48_0, q48_1, q48_2, q48_3, q48_4, q48_7, q48_8, q48_9, q48_10, q48_13, q48_17, q48_18, q48_21, q48_22, q48_25, q48_27, q48_28, q48_30, q48_31, q48_33, q48_35, q48_37, q48_40, q48_42, q48_44, q48_47, q48_50, q48_53, q48_56, q48_57, eB, eE, zCall_some, Option.toList, List.cons_append, List.nil_append, zb_0, zb_1, zem, z01, z11, nI_add, ↓reduceIte, not_true_eq_false, not_false_eq_true, n0T, n1F, n11T, true_or, or_true, false_or]
    refine Eq.trans (show _ = _ from e) ?_
    dsimp only
    simp only [q48_15, q48_17, q48_18, q48_56, q48_57, c1, zCall_some, Option.toList, List.cons_append, List.nil_append, zb_0, zb_1, zem, z01, z11, nI_add, ↓reduceIte, not_true_eq_false, not_false_eq_true, n0T, n1F, n11T, true_or, or_true, false_or]
  · rw [h3, if_pos rfl] at eB eE
    rw [h3, if_pos rfl]
    have c1 : (-5 : Int32) ≤ -5 := by decide
    simp only [q48_0, q48_1, q48_2, q48_3, q48_4, q48_7, q48_8, q48_9, q48_10, q48_13, q48_15, q48_17, q48_18, q48_21, q48_22, q48_25, q48_27, q48_28, q48_30, q48_31, q48_33, q48_35, q48_37, q48_40, q48_42, q48_44, q48_47, q48_50, q48_53, q48_56, q48_57, eB, eE, c1, zCall_some, Option.toList, List.cons_append, List.nil_append, zb_0, zb_1, zem, z01, z11, nI_add, ↓reduceIte, not_true_eq_false, not_false_eq_true, n0T, n1F, n11T, true_or, or_true, false_or]
theorem m_allHours {sc : Int32 × (Int32 → Int32)} {f : zF} {a : zA} {j : zJ} {d w : Nat} {σ : Nat → Nat} {tr : Bool} (hV : VR σ) (hT : TuO σ w tr f a) : cf sc (d + 1) 49 [.ref 54] f a j = some (some (.int (nI (sumF (hvOf σ w tr) (σ 0)))), f, a, j) := by
  have hn := hV.1
  have key := zLoop (n := σ 0) (g := fun i => rn sc (cf sc d) 49 4 [.ref 54, .int (nI (sumF (hvOf σ w tr) i)), .int (nI i)] [] f a j) (by
    intro i hi
    have c1 : ¬ nI (σ 0) ≤ nI i := nI_ge hi (by omega)
    have ix1 : zIx 21 59 (nI i) := ix59 (by omega)
    rw [q49_4, sumF_s]
    simp only [q49_0, q49_1, q49_2, q49_3, q49_5, q49_6, q49_9, q49_12, q49_13, q49_14, q49_17, q49_18, q49_19, q49_20, q49_21, q49_24, q49_27, q49_28, hT.1, c1, ix1, hT.2.2.2.2.2.2.2.2.1 i hi, zCall_some, Option.toList, List.cons_append, List.nil_append, zb_0, zb_1, zem, z01, z11, nI_add, ↓reduceIte, not_true_eq_false, not_false_eq_true, n0T, n1F, n11T, true_or, or_true, false_or])
  rw [en49, q49_0, q49_1, q49_2, q49_3]
  refine Eq.trans (show _ = _ from key) ?_
  have c1 : nI (σ 0) ≤ nI (σ 0) := nI_le (Nat.le_refl _) (by omega)
  simp only [q49_4, q49_5, q49_6, q49_9, q49_27, q49_28, hT.1, c1, zCall_some, Option.toList, List.cons_append, List.nil_append, zb_0, zb_1, zem, z01, z11, nI_add, ↓reduceIte, not_true_eq_false, not_false_eq_true, n0T, n1F, n11T, true_or, or_true, false_or]
theorem m_allNight {sc : Int32 × (Int32 → Int32)} {f : zF} {a : zA} {j : zJ} {d w : Nat} {σ : Nat → Nat} {tr : Bool} (hV : VR σ) (hw : w ≤ 1010) (hTr : tr = true → TrOK σ w) (hT : TuO σ w tr f a) : cf sc (d + 6) 50 [.ref 54] f a j = some (some (.int (nI (sumF (ngF σ w tr) (σ 0)))), f, a, j) := by
  have hn := hV.1
  have key := zLoop (n := σ 0) (g := fun i => rn sc (cf sc (d + 5)) 50 4 [.ref 54, .int (nI (sumF (ngF σ w tr) i)), .int (nI i)] [] f a j) (by
    intro i hi
    have c1 : ¬ nI (σ 0) ≤ nI i := nI_ge hi (by omega)
    rw [q50_4, sumF_s]
    simp only [q50_0, q50_1, q50_2, q50_3, q50_5, q50_6, q50_9, q50_12, q50_13, q50_14, q50_15, q50_18, q50_19, q50_20, q50_23, q50_26, q50_27, hT.1, c1, m_nightHours hV hw hTr hT hi, zCall_some, Option.toList, List.cons_append, List.nil_append, zb_0, zb_1, zem, z01, z11, nI_add, ↓reduceIte, not_true_eq_false, not_false_eq_true, n0T, n1F, n11T, true_or, or_true, false_or])
  rw [en50, q50_0, q50_1, q50_2, q50_3]
  refine Eq.trans (show _ = _ from key) ?_
  have c1 : nI (σ 0) ≤ nI (σ 0) := nI_le (Nat.le_refl _) (by omega)
  simp only [q50_4, q50_5, q50_6, q50_9, q50_26, q50_27, hT.1, c1, zCall_some, Option.toList, List.cons_append, List.nil_append, zb_0, zb_1, zem, z01, z11, nI_add, ↓reduceIte, not_true_eq_false, not_false_eq_true, n0T, n1F, n11T, true_or, or_true, false_or]
theorem kpF_s (σ : Nat → Nat) (r : Nat) : kpF σ (r + 1) = kpF σ r - σ (12 + r) := rfl
theorem kpF_ge {σ : Nat → Nat} (hV : VR σ) : ∀ r, r ≤ 4 → 100 ≤ kpF σ r + 25 * r
  | 0, _ => Nat.le_refl _
  | r + 1, h => by
    have ih := kpF_ge hV r (by omega)
    have h1 := (hV.2.2.2 r (by omega)).2
    rw [kpF_s]
    omega
theorem m_kept {sc : Int32 × (Int32 → Int32)} {f : zF} {a : zA} {j : zJ} {d c g : Nat} {σ : Nat → Nat} (hc : isC c) (hV : VR σ) (hR : CR0 c σ f a) (hg : g < σ 0) : cf sc (d + 4) 8 [.ref c, .int (nI g)] f a j = some (some (.int (nI (kpF σ (σ (16 + g) + 1)))), f, a, j) := by
  have hn := hV.1
  have h4 := (hV.2.2.1 g hg).1
  have key := zLoop (n := σ (16 + g) + 1) (g := fun r => rn sc (cf sc (d + 3)) 8 12 [.ref c, .int (nI g), .int (nI (σ (16 + g))), .int (nI (kpF σ r)), .int (nI r)] [] f a j) (by
    intro r hr
    have c1 : ¬ nI (σ (16 + g)) < nI r := nI_nlt (by omega) (by omega)
    have c2 : ¬ nI 4 ≤ nI r := nI_ge (by omega) (by omega)
    have ix2 : zIx 21 (c + 2) (nI r) := ixC2 hc (by omega)
    have hk := kpF_ge hV r (by omega)
    have hl := (hV.2.2.2 r (by omega)).2
    have s1 : nI (kpF σ r) - nI (σ (12 + r)) = nI (kpF σ r - σ (12 + r)) := pk_sub (by omega)
    rw [q8_12, kpF_s]
    simp only [q8_0, q8_1, q8_2, q8_5, q8_6, q8_8, q8_9, q8_10, q8_14, q8_15, q8_18, q8_20, q8_21, q8_24, q8_25, q8_26, q8_29, q8_31, q8_32, q8_33, q8_34, q8_37, q8_40, q8_41, hc, ix2, (hR.2.2.1 r (by omega)).2, c1, c2, s1, zCall_some, Option.toList, List.cons_append, List.nil_append, zb_0, zb_1, zem, z01, z11, nI_add, ↓reduceIte, not_true_eq_false, not_false_eq_true, n0T, n1F, n11T, true_or, or_true, false_or])
  rw [en8]
  simp only [q8_0, q8_1, q8_2, q8_5, q8_6, q8_8, q8_9, q8_10, hc, m_ownReach hc hV hR hg, zCall_some, Option.toList, List.cons_append, List.nil_append, zb_0, zb_1, zem, z01, z11, nI_add, ↓reduceIte, not_true_eq_false, not_false_eq_true, n0T, n1F, n11T, true_or, or_true, false_or]
  refine Eq.trans (show _ = _ from key) ?_
  have c1 : nI (σ (16 + g)) < nI (σ (16 + g) + 1) := nI_lt (by omega) (by omega)
  simp only [q8_12, q8_14, q8_15, q8_40, q8_41, c1, zCall_some, Option.toList, List.cons_append, List.nil_append, zb_0, zb_1, zem, z01, z11, nI_add, ↓reduceIte, not_true_eq_false, not_false_eq_true, n0T, n1F, n11T, true_or, or_true, false_or]
theorem m_allWater {sc : Int32 × (Int32 → Int32)} {f : zF} {a : zA} {j : zJ} {d c w : Nat} {σ : Nat → Nat} {tr : Bool} (hc : isC c) (hV : VR σ) (hR : CR0 c σ f a) (hT : TuO σ w tr f a) : cf sc (d + 5) 51 [.ref 54, .ref c] f a j = some (some (.int (nI (sumF (waF σ w tr) (σ 0)))), f, a, j) := by
  have hn := hV.1
  have key := zLoop (n := σ 0) (g := fun i => rn sc (cf sc (d + 4)) 51 4 [.ref 54, .ref c, .int (nI (sumF (waF σ w tr) i)), .int (nI i)] [] f a j) (by
    intro i hi
    have c1 : ¬ nI (σ 0) ≤ nI i := nI_ge hi (by omega)
    have ix1 : zIx 21 59 (nI i) := ix59 (by omega)
    rw [q51_4, sumF_s]
    simp only [q51_0, q51_1, q51_2, q51_3, q51_5, q51_6, q51_9, q51_12, q51_13, q51_14, q51_17, q51_18, q51_19, q51_20, q51_21, q51_24, q51_25, q51_26, q51_27, q51_30, q51_33, q51_34, hc, hT.1, c1, ix1, hT.2.2.2.2.2.2.2.2.1 i hi, m_kept hc hV hR hi, pk_mul, waF, zCall_some, Option.toList, List.cons_append, List.nil_append, zb_0, zb_1, zem, z01, z11, nI_add, ↓reduceIte, not_true_eq_false, not_false_eq_true, n0T, n1F, n11T, true_or, or_true, false_or])
  rw [en51, q51_0, q51_1, q51_2, q51_3]
  refine Eq.trans (show _ = _ from key) ?_
  have c1 : nI (σ 0) ≤ nI (σ 0) := nI_le (Nat.le_refl _) (by omega)
  simp only [q51_4, q51_5, q51_6, q51_9, q51_33, q51_34, hT.1, c1, zCall_some, Option.toList, List.cons_append, List.nil_append, zb_0, zb_1, zem, z01, z11, nI_add, ↓reduceIte, not_true_eq_false, not_false_eq_true, n0T, n1F, n11T, true_or, or_true, false_or]
def cnF (σ : Nat → Nat) (r : Nat) : Nat → Nat := ctI σ r
theorem m_fieldsOn {sc : Int32 × (Int32 → Int32)} {f : zF} {a : zA} {j : zJ} {d c r : Nat} {σ : Nat → Nat} (hc : isC c) (hV : VR σ) (hR : CR0 c σ f a) (hr : r < 4) : cf sc (d + 1) 3 [.ref c, .int (nI r)] f a j = some (some (.int (nI (ctI σ r (σ 0)))), f, a, j) := by
  have hn := hV.1
  have key := zLoop (n := σ 0) (g := fun i => rn sc (cf sc d) 3 4 [.ref c, .int (nI r), .int (nI (ctI σ r i)), .int (nI i)] [] f a j) (by
    intro i hi
    have c1 : ¬ nI (σ 0) ≤ nI i := nI_ge hi (by omega)
    have ix3 : zIx 21 (c + 3) (nI i) := ixC3 hc (by omega)
    have h4 := (hV.2.2.1 i hi).1
    have e1 : (nI (σ (16 + i)) = nI r) = (σ (16 + i) = r) := propext (nI_eq (by omega) (by omega))
    rw [q3_4, ctI_s]
    by_cases h : σ (16 + i) = r
    · simp only [q3_0, q3_1, q3_2, q3_3, q3_5, q3_6, q3_9, q3_12, q3_13, q3_16, q3_17, q3_18, q3_19, q3_22, q3_25, q3_28, q3_31, q3_32, hc, hR.1, c1, ix3, (hR.2.2.2.1 i hi).1, e1, h, zCall_some, Option.toList, List.cons_append, List.nil_append, zb_0, zb_1, zem, z01, z11, nI_add, ↓reduceIte, not_true_eq_false, not_false_eq_true, n0T, n1F, n11T, true_or, or_true, false_or]
    · simp only [q3_0, q3_1, q3_2, q3_3, q3_5, q3_6, q3_9, q3_12, q3_13, q3_16, q3_17, q3_18, q3_19, q3_22, q3_25, q3_28, q3_31, q3_32, hc, hR.1, c1, ix3, (hR.2.2.2.1 i hi).1, e1, h, Nat.add_zero, zCall_some, Option.toList, List.cons_append, List.nil_append, zb_0, zb_1, zem, z01, z11, nI_add, ↓reduceIte, not_true_eq_false, not_false_eq_true, n0T, n1F, n11T, true_or, or_true, false_or])
  rw [en3, q3_0, q3_1, q3_2, q3_3]
  refine Eq.trans (show _ = _ from key) ?_
  have c1 : nI (σ 0) ≤ nI (σ 0) := nI_le (Nat.le_refl _) (by omega)
  simp only [q3_4, q3_5, q3_6, q3_9, q3_31, q3_32, hc, hR.1, c1, zCall_some, Option.toList, List.cons_append, List.nil_append, zb_0, zb_1, zem, z01, z11, nI_add, ↓reduceIte, not_true_eq_false, not_false_eq_true, n0T, n1F, n11T, true_or, or_true, false_or]
