/-! ===== the class: undoTrade, tradeOf, chain, see, plan, book, count ===== -/
def utS (σ : Nat → Nat) : Int32 × (Nat → Nat) := if σ 4 = 0 then (-3, σ) else (nI (σ 4 - 1), zup σ 4 (σ 4 - 1))
theorem x_undoTrade {sc : Int32 × (Int32 → Int32)} {f : zF} {a : zA} {j : zJ} {d : Nat} {σ : Nat → Nat} (hW : WR 1 σ f a) (hV : VS σ) : ∃ (f' : zF) (a' : zA), cf sc (d + 1) 71 [.ref 0] f a j = some (some (.int (utS σ).1), f', a', j) ∧ WR 1 (utS σ).2 f' a' ∧ VS (utS σ).2 ∧ FrW f f' a a' := by
  have h12 := hV.2.1.1
  have e4 : f 7 3 = nI (σ 4) := hW.1.2.2.2.2.1
  rw [en71]
  unfold utS
  by_cases h0 : σ 4 = 0
  · rw [if_pos h0]
    have c1 : ¬ 0 < nI 0 := by decide
    rw [h0] at e4
    refine ⟨f, a, ?_, hW, hV, FrW.rf⟩
    simp only [q71_0, q71_1, q71_4, q71_7, q71_10, q71_11, q71_12, q71_15, q71_18, q71_20, q71_21, q71_22, q71_23, q71_26, q71_27, q71_28, q71_31, q71_32, q71_35, isW_1, isC_2, isR_7, Nat.reduceAdd, e4, c1, zCall_some, Option.toList, List.cons_append, List.nil_append, zb_0, zb_1, zem, z01, z11, nI_add, ↓reduceIte, not_true_eq_false, not_false_eq_true, n0T, n1F, n11T, true_or, or_true, false_or]
  · rw [if_neg h0]
    have c1 : 0 < nI (σ 4) := show nI 0 < nI (σ 4) from nI_lt (by omega) (by omega)
    have e5 : nI (σ 4) - nI 1 = nI (σ 4 - 1) := pk_sub (by omega)
    have e : ∀ i, i ≠ 4 → zup σ 4 (σ 4 - 1) i = σ i := fun i h => zup_ne h
    refine ⟨zuF f 7 3 (nI (σ 4 - 1)), a, ?_, ?_, ?_, ⟨fun k hk => zuF_nk (by omega), fun _ _ => rfl⟩⟩
    · simp only [q71_0, q71_1, q71_4, q71_7, q71_10, q71_11, q71_12, q71_15, q71_18, q71_20, q71_21, q71_22, q71_23, q71_26, q71_27, q71_28, q71_31, q71_32, q71_35, isW_1, isC_2, isR_7, Nat.reduceAdd, e4, e5, c1, zuF_eq, zCall_some, Option.toList, List.cons_append, List.nil_append, zb_0, zb_1, zem, z01, z11, nI_add, ↓reduceIte, not_true_eq_false, not_false_eq_true, n0T, n1F, n11T, true_or, or_true, false_or]
    · show WR 1 (zup σ 4 (σ 4 - 1)) (zuF f 7 3 (nI (σ 4 - 1))) a
      obtain ⟨⟨k1, k2, k3, k4, k5, k6⟩, k7, k8, k9, k10⟩ := hW
      refine ⟨?_, ?_, k8.of (e _ (by omega)) (fun k _ => ⟨e _ (by omega), e _ (by omega)⟩) (zuF_nk (by omega)) rfl rfl, k9.of (e _ (by omega)) (fun k _ => ⟨e _ (by omega), e _ (by omega)⟩) (zuF_nk (by omega)) rfl rfl, k10.of (e _ (by omega)) (fun k _ => ⟨e _ (by omega), e _ (by omega)⟩) (zuF_nk (by omega)) rfl rfl⟩
      · unfold CR0
        rw [e 0 (by omega), zup_eq, zuF_nk (show 1 + 1 ≠ 7 by omega)]
        refine ⟨k1, fun g hg => ?_, fun r hr => ?_, fun g hg => ?_, zuF_eq, fun k hk => ?_⟩
        · rw [e (32 + g) (by omega)]; exact k2 g hg
        · rw [e (8 + r) (by omega), e (12 + r) (by omega)]; exact k3 r hr
        · rw [e (16 + g) (by omega), e (24 + g) (by omega)]; exact k4 g hg
        · rw [e (40 + k) (by omega), e (52 + k) (by omega), e (64 + k) (by omega)]; exact k6 k (by omega)
      · rw [e 1 (by omega), e 2 (by omega), e 3 (by omega), zuF_nk (show 1 + 1 ≠ 7 by omega)]; exact k7
    · show VS (zup σ 4 (σ 4 - 1))
      obtain ⟨v1, ⟨v2, v2'⟩, ⟨v3, v4⟩, ⟨v5, v6⟩, ⟨v7, v8⟩⟩ := hV
      have hn := v1.1.1
      have hA : Agr σ (zup σ 4 (σ 4 - 1)) := fun i hi => e i (by omega)
      refine ⟨VC.cong hA v1, ?_, ?_, ?_, ?_⟩
      · unfold TrOK
        rw [zup_eq, e 3 (by omega), e 0 (by omega)]
        refine ⟨by omega, fun k hk => ?_⟩
        have := v2' k (by omega)
        rw [e (40 + k) (by omega), e (52 + k) (by omega), e (64 + k) (by omega), g_hvT hA v1.1 (σ 3) k (fun i hi => ⟨e _ (by omega), e _ (by omega), e _ (by omega), by have := v2' i (by omega); omega, by have := v2' i (by omega); omega⟩) _ (by omega)]
        exact this
      · rw [e 5 (by omega), e 0 (by omega)]
        refine ⟨v3, fun k hk => ?_⟩
        rw [e (76 + k) (by omega), e (81 + k) (by omega)]; exact v4 k hk
      · rw [e 6 (by omega), e 0 (by omega)]
        refine ⟨v5, fun k hk => ?_⟩
        rw [e (86 + k) (by omega), e (94 + k) (by omega)]; exact v6 k hk
      · rw [e 7 (by omega), e 0 (by omega)]
        refine ⟨v7, fun k hk => ?_⟩
        rw [e (102 + k) (by omega), e (110 + k) (by omega)]; exact v8 k hk
def toS (σ : Nat → Nat) (v what : Int32) : Int32 := if zHas v (σ 4) then (if what = nI 0 then nI (σ (40 + v.toNatClampNeg)) else if what = nI 1 then nI (σ (52 + v.toNatClampNeg)) else if what = nI 2 then nI (σ (64 + v.toNatClampNeg)) else -1) else -1
theorem x_tradeOf {sc : Int32 × (Int32 → Int32)} {f : zF} {a : zA} {j : zJ} {d : Nat} {σ : Nat → Nat} {v what : Int32} (hW : WR 1 σ f a) (hV : VS σ) : cf sc (d + 2) 72 [.ref 0, .int v, .int what] f a j = some (some (.int (toS σ v what)), f, a, j) := by
  have h12 := hV.2.1.1
  have e4 : f 7 3 = nI (σ 4) := hW.1.2.2.2.2.1
  have e := zb_iff (has_iff (v := v) (n := σ 4) (by omega))
  rw [en72]
  unfold toS
  by_cases hv : zHas v (σ 4)
  · rw [if_pos hv]
    obtain ⟨r, hr, rfl⟩ := zHas_of (by omega) hv
    rw [nI_clamp (n := r) (by omega)]
    have i1 : zIx 21 8 (nI r) := ixC6 isC_2 (by omega)
    have i2 : zIx 21 9 (nI r) := ixC7 isC_2 (by omega)
    have i3 : zIx 21 10 (nI r) := ixC8 isC_2 (by omega)
    have e1 : a 8 (nI r) = nI (σ (40 + r)) := (hW.1.2.2.2.2.2 r hr).1
    have e2 : a 9 (nI r) = nI (σ (52 + r)) := (hW.1.2.2.2.2.2 r hr).2.1
    have e3 : a 10 (nI r) = nI (σ (64 + r)) := (hW.1.2.2.2.2.2 r hr).2.2
    by_cases h0 : what = nI 0
    · rw [h0]
      simp only [q72_0, q72_1, q72_4, q72_7, q72_10, q72_11, q72_12, q72_13, q72_14, q72_17, q72_18, q72_19, q72_22, q72_25, q72_26, q72_27, q72_28, q72_56, q72_57, q72_60, q72_61, q72_62, q72_63, q72_64, q72_67, q72_68, q72_69, q72_70, q72_71, q72_74, q72_75, q72_76, q72_77, q72_78, m_isWithin, e, eq_true hv, isW_1, isC_2, isR_7, Nat.reduceAdd, e4, i1, e1, zCall_some, Option.toList, List.cons_append, List.nil_append, zb_0, zb_1, zem, z01, z11, nI_add, ↓reduceIte, not_true_eq_false, not_false_eq_true, n0T, n1F, n11T, true_or, or_true, false_or]
    · by_cases h1 : what = nI 1
      · rw [h1]
        simp only [q72_0, q72_1, q72_4, q72_7, q72_10, q72_11, q72_12, q72_13, q72_14, q72_17, q72_18, q72_19, q72_22, q72_25, q72_26, q72_27, q72_28, q72_56, q72_57, q72_60, q72_61, q72_62, q72_63, q72_64, q72_67, q72_68, q72_69, q72_70, q72_71, q72_74, q72_75, q72_76, q72_77, q72_78, m_isWithin, e, eq_true hv, isW_1, isC_2, isR_7, Nat.reduceAdd, e4, i2, e2, ne1_0, zCall_some, Option.toList, List.cons_append, List.nil_append, zb_0, zb_1, zem, z01, z11, nI_add, ↓reduceIte, not_true_eq_false, not_false_eq_true, n0T, n1F, n11T, true_or, or_true, false_or]
      · by_cases h2 : what = nI 2
        · rw [h2]
          simp only [q72_0, q72_1, q72_4, q72_7, q72_10, q72_11, q72_12, q72_13, q72_14, q72_17, q72_18, q72_19, q72_22, q72_25, q72_26, q72_27, q72_28, q72_56, q72_57, q72_60, q72_61, q72_62, q72_63, q72_64, q72_67, q72_68, q72_69, q72_70, q72_71, q72_74, q72_75, q72_76, q72_77, q72_78, m_isWithin, e, eq_true hv, isW_1, isC_2, isR_7, Nat.reduceAdd, e4, i3, e3, ne2_0, ne2_1, zCall_some, Option.toList, List.cons_append, List.nil_append, zb_0, zb_1, zem, z01, z11, nI_add, ↓reduceIte, not_true_eq_false, not_false_eq_true, n0T, n1F, n11T, true_or, or_true, false_or]
        · simp only [q72_0, q72_1, q72_4, q72_7, q72_10, q72_11, q72_12, q72_13, q72_14, q72_17, q72_18, q72_19, q72_22, q72_25, q72_26, q72_27, q72_28, q72_56, q72_57, q72_60, q72_61, q72_62, q72_63, q72_64, q72_67, q72_68, q72_69, q72_70, q72_71, q72_74, q72_75, q72_76, q72_77, q72_78, m_isWithin, e, eq_true hv, isW_1, isC_2, isR_7, Nat.reduceAdd, e4, h0, h1, h2, zCall_some, Option.toList, List.cons_append, List.nil_append, zb_0, zb_1, zem, z01, z11, nI_add, ↓reduceIte, not_true_eq_false, not_false_eq_true, n0T, n1F, n11T, true_or, or_true, false_or]
  · rw [if_neg hv]
    simp only [q72_0, q72_1, q72_4, q72_7, q72_10, q72_11, q72_12, q72_13, q72_14, q72_17, q72_18, q72_19, q72_22, q72_25, q72_26, q72_27, q72_28, q72_56, q72_57, q72_60, q72_61, q72_62, q72_63, q72_64, q72_67, q72_68, q72_69, q72_70, q72_71, q72_74, q72_75, q72_76, q72_77, q72_78, m_isWithin, e, eq_false hv, isW_1, isC_2, isR_7, Nat.reduceAdd, e4, zCall_some, Option.toList, List.cons_append, List.nil_append, zb_0, zb_1, zem, z01, z11, nI_add, ↓reduceIte, not_true_eq_false, not_false_eq_true, n0T, n1F, n11T, true_or, or_true, false_or]
def chB (σ : Nat → Nat) (g : Nat) : Nat → Int32
  | 0 => nI 0
  | k + 1 => if σ (40 + k) = g ∨ bt (chB σ g k) (σ (40 + k)) = true then chB σ g k ||| (nI 1 <<< (nI (σ (52 + k)) &&& 31)) else chB σ g k
def chS (σ : Nat → Nat) (v : Int32) : Int32 := if zHas v (σ 0) then chB σ v.toNatClampNeg (σ 4) else -1
theorem x_chain {sc : Int32 × (Int32 → Int32)} {f : zF} {a : zA} {j : zJ} {d : Nat} {σ : Nat → Nat} {v : Int32} (hW : WR 1 σ f a) (hV : VS σ) : cf sc (d + 3) 73 [.ref 0, .int v] f a j = some (some (.int (chS σ v)), f, a, j) := by
  have hVR := hV.1.1
  have hn := hVR.1
  obtain ⟨h12, hT⟩ := hV.2.1
  have e4 : f 7 3 = nI (σ 4) := hW.1.2.2.2.2.1
  rw [en73]
  unfold chS
  by_cases hv : zHas v (σ 0)
  · rw [if_pos hv]
    obtain ⟨g, hg, rfl⟩ := zHas_of (by omega) hv
    rw [nI_clamp (n := g) (by omega)]
    have key := zLoop (n := σ 4) (g := fun i => rn sc (cf sc (d + 2)) 73 32 [.ref 0, .int (nI g), .ref 7, .int (chB σ g i), .int (nI i)] [] f a j) (by
      intro i hi
      have c1 : ¬ nI (σ 4) ≤ nI i := nI_ge hi (by omega)
      have i1 : zIx 21 8 (nI i) := ixC6 isC_2 (by omega)
      have i2 : zIx 21 9 (nI i) := ixC7 isC_2 (by omega)
      have e1 : a 8 (nI i) = nI (σ (40 + i)) := (hW.1.2.2.2.2.2 i hi).1
      have e2 : a 9 (nI i) = nI (σ (52 + i)) := (hW.1.2.2.2.2.2 i hi).2.1
      have ht := hT i hi
      have q1 : (nI (σ (40 + i)) = nI g) = (σ (40 + i) = g) := propext (nI_eq (by omega) (by omega))
      have hb := m_isBit (sc := sc) (d := d + 1) (f := f) (a := a) (j := j) (x := chB σ g i) (q := σ (40 + i)) (by omega)
      show _ = rn sc (cf sc (d + 2)) 73 32 [.ref 0, .int (nI g), .ref 7, .int (if σ (40 + i) = g ∨ bt (chB σ g i) (σ (40 + i)) = true then chB σ g i ||| (nI 1 <<< (nI (σ (52 + i)) &&& 31)) else chB σ g i), .int (nI (i + 1))] [] f a j
      rw [q73_32]
      by_cases w1 : σ (40 + i) = g
      · rw [if_pos (Or.inl w1)]
        simp only [q73_0, q73_1, q73_4, q73_7, q73_8, q73_11, q73_14, q73_15, q73_16, q73_17, q73_20, q73_23, q73_26, q73_27, q73_28, q73_29, q73_30, q73_34, q73_35, q73_38, q73_41, q73_42, q73_45, q73_47, q73_48, q73_49, q73_52, q73_53, q73_54, q73_57, q73_59, q73_60, q73_63, q73_66, q73_67, q73_68, q73_69, q73_72, q73_74, q73_75, q73_76, q73_77, q73_78, q73_81, q73_84, q73_85, isR_7, Nat.reduceAdd, e4, c1, i1, i2, e1, e2, q1, w1, zCall_some, Option.toList, List.cons_append, List.nil_append, zb_0, zb_1, zem, z01, z11, nI_add, ↓reduceIte, not_true_eq_false, not_false_eq_true, n0T, n1F, n11T, true_or, or_true, false_or]
      · by_cases w2 : bt (chB σ g i) (σ (40 + i)) = true
        · rw [if_pos (Or.inr w2)]
          simp only [q73_0, q73_1, q73_4, q73_7, q73_8, q73_11, q73_14, q73_15, q73_16, q73_17, q73_20, q73_23, q73_26, q73_27, q73_28, q73_29, q73_30, q73_34, q73_35, q73_38, q73_41, q73_42, q73_45, q73_47, q73_48, q73_49, q73_52, q73_53, q73_54, q73_57, q73_59, q73_60, q73_63, q73_66, q73_67, q73_68, q73_69, q73_72, q73_74, q73_75, q73_76, q73_77, q73_78, q73_81, q73_84, q73_85, isR_7, Nat.reduceAdd, e4, c1, i1, i2, e1, e2, q1, w1, hb, w2, zCall_some, Option.toList, List.cons_append, List.nil_append, zb_0, zb_1, zem, z01, z11, nI_add, ↓reduceIte, not_true_eq_false, not_false_eq_true, n0T, n1F, n11T, true_or, or_true, false_or]
        · rw [if_neg (fun q => q.elim w1 w2)]
          simp only [q73_0, q73_1, q73_4, q73_7, q73_8, q73_11, q73_14, q73_15, q73_16, q73_17, q73_20, q73_23, q73_26, q73_27, q73_28, q73_29, q73_30, q73_34, q73_35, q73_38, q73_41, q73_42, q73_45, q73_47, q73_48, q73_49, q73_52, q73_53, q73_54, q73_57, q73_59, q73_60, q73_63, q73_66, q73_67, q73_68, q73_69, q73_72, q73_74, q73_75, q73_76, q73_77, q73_78, q73_81, q73_84, q73_85, isR_7, Nat.reduceAdd, e4, c1, i1, i2, e1, e2, q1, w1, hb, w2, Bool.false_eq_true, zCall_some, Option.toList, List.cons_append, List.nil_append, zb_0, zb_1, zem, z01, z11, nI_add, ↓reduceIte, not_true_eq_false, not_false_eq_true, n0T, n1F, n11T, true_or, or_true, false_or])
    have c1 : nI (σ 4) ≤ nI (σ 4) := nI_le (Nat.le_refl _) (by omega)
    simp only [q73_0, q73_1, q73_4, q73_7, q73_8, q73_11, q73_14, q73_15, q73_16, q73_17, q73_20, q73_23, q73_26, q73_27, q73_28, q73_29, q73_30, q73_34, q73_35, q73_38, q73_41, q73_42, q73_45, q73_47, q73_48, q73_49, q73_52, q73_53, q73_54, q73_57, q73_59, q73_60, q73_63, q73_66, q73_67, q73_68, q73_69, q73_72, q73_74, q73_75, q73_76, q73_77, q73_78, q73_81, q73_84, q73_85, m_hasField isC_2 hW.1.1 hn, eq_true hv, isW_1, isC_2, Nat.reduceAdd, zCall_some, Option.toList, List.cons_append, List.nil_append, zb_0, zb_1, zem, z01, z11, nI_add, ↓reduceIte, not_true_eq_false, not_false_eq_true, n0T, n1F, n11T, true_or, or_true, false_or]
    refine Eq.trans (show _ = _ from key) ?_
    simp only [q73_32, q73_34, q73_35, q73_38, q73_84, q73_85, isR_7, e4, c1, zCall_some, Option.toList, List.cons_append, List.nil_append, zb_0, zb_1, zem, z01, z11, nI_add, ↓reduceIte, not_true_eq_false, not_false_eq_true, n0T, n1F, n11T, true_or, or_true, false_or]
  · rw [if_neg hv]
    simp only [q73_0, q73_1, q73_4, q73_7, q73_8, q73_11, q73_14, q73_15, q73_16, q73_17, q73_20, q73_23, q73_26, q73_27, q73_28, q73_29, q73_30, q73_34, q73_35, q73_38, q73_41, q73_42, q73_45, q73_47, q73_48, q73_49, q73_52, q73_53, q73_54, q73_57, q73_59, q73_60, q73_63, q73_66, q73_67, q73_68, q73_69, q73_72, q73_74, q73_75, q73_76, q73_77, q73_78, q73_81, q73_84, q73_85, m_hasField isC_2 hW.1.1 hn, eq_false hv, isW_1, isC_2, Nat.reduceAdd, zCall_some, Option.toList, List.cons_append, List.nil_append, zb_0, zb_1, zem, z01, z11, nI_add, ↓reduceIte, not_true_eq_false, not_false_eq_true, n0T, n1F, n11T, true_or, or_true, false_or]
/-- a row more -/
def rwU (cnt p q : Nat) (σ : Nat → Nat) (x y : Nat) : Nat → Nat := zup (zup (zup σ (p + σ cnt) x) (q + σ cnt) y) cnt (σ cnt + 1)
def tlS (cnt p q cap : Nat) (σ : Nat → Nat) (v h : Int32) : Int32 × (Nat → Nat) := if v = -1 then (nI 0, zup σ cnt 0) else if zHas v (σ 0) then (if zBtw h 0 96 then (if σ cnt < cap then (nI (σ cnt + 1), rwU cnt p q σ v.toNatClampNeg h.toNatClampNeg) else (-4, σ)) else (-2, σ)) else (-1, σ)
theorem RW.push {r cnt p q x y : Nat} {z : Int32} {σ : Nat → Nat} {f : zF} {a : zA} (h : RW r cnt p q σ f a) (hc : cnt < p) (hpq : p + σ cnt < q) (hs : σ cnt < 1000) : RW r cnt p q (rwU cnt p q σ x y) (zuF f r 3 (nI (σ cnt + 1))) (zuA (zuA (zuA a (r + 1) (nI (σ cnt)) (nI x)) (r + 2) (nI (σ cnt)) (nI y)) (r + 3) (nI (σ cnt)) z) := by
  have e0 : rwU cnt p q σ x y cnt = σ cnt + 1 := zup_eq
  have ep : rwU cnt p q σ x y (p + σ cnt) = x := by unfold rwU; rw [zup_ne (by omega), zup_ne (by omega), zup_eq]
  have eq : rwU cnt p q σ x y (q + σ cnt) = y := by unfold rwU; rw [zup_ne (by omega), zup_eq]
  have eo : ∀ i, i ≠ cnt → i ≠ p + σ cnt → i ≠ q + σ cnt → rwU cnt p q σ x y i = σ i := fun i q1 q2 q3 => by unfold rwU; rw [zup_ne q1, zup_ne q3, zup_ne q2]
  unfold RW
  rw [e0]
  refine ⟨zuF_eq, fun k hk => ?_⟩
  by_cases w : k = σ cnt
  · rw [w, ep, eq]
    refine ⟨?_, ?_⟩
    · rw [zuA_nk (by omega), zuA_nk (by omega), zuA_eq]
    · rw [zuA_nk (by omega), zuA_eq]
  · have w' : nI k ≠ nI (σ cnt) := nI_ne (by omega) (by omega) w
    rw [zuA_ni w', zuA_ni w', zuA_ni w', zuA_ni w', zuA_ni w', zuA_ni w', eo (p + k) (by omega) (by omega) (by omega), eo (q + k) (by omega) (by omega) (by omega)]
    exact h.2 k (by omega)
theorem RW.zero {r cnt p q : Nat} {σ : Nat → Nat} {f : zF} {a : zA} : RW r cnt p q (zup σ cnt 0) (zuF f r 3 (nI 0)) a := by
  unfold RW
  rw [zup_eq, zuF_eq]
  exact ⟨rfl, fun k hk => by omega⟩
theorem m_tellHours {sc : Int32 × (Int32 → Int32)} {f : zF} {a : zA} {j : zJ} {d r cnt p q cap : Nat} {σ : Nat → Nat} {v h : Int32} (hr : isR r) (hcap : zLn (r + 1) = cap) (hR : RW r cnt p q σ f a) (hle : σ cnt ≤ cap) (hc : cnt < p) (hpq : p + cap ≤ q) (h6 : f 2 6 = nI (σ 0)) (h8 : σ 0 ≤ 8) :
    ∃ (f' : zF) (a' : zA), cf sc (d + 3) 104 [.ref 0, .ref r, .int v, .int h] f a j = some (some (.int (tlS cnt p q cap σ v h).1), f', a', j) ∧ RW r cnt p q (tlS cnt p q cap σ v h).2 f' a' ∧ (∀ k, k ≠ r → f' k = f k) ∧ ∀ k, (k ≤ r ∨ r + 3 < k) → a' k = a k := by
  have h360 := zLn_le (r + 1)
  rw [en104]
  unfold tlS
  by_cases hm : v = -1
  · rw [if_pos hm]
    refine ⟨zuF f r 3 (nI 0), a, ?_, RW.zero, fun k hk => zuF_nk hk, fun _ _ => rfl⟩
    simp only [q104_0, q104_1, q104_2, q104_5, q104_6, q104_7, q104_10, q104_11, q104_12, q104_13, q104_16, q104_19, q104_20, q104_23, q104_26, q104_27, q104_28, q104_29, q104_30, q104_32, q104_35, q104_38, q104_40, q104_41, q104_42, q104_43, q104_44, q104_45, q104_48, hr, hm, zCall_some, Option.toList, List.cons_append, List.nil_append, zb_0, zb_1, zem, z01, z11, nI_add, ↓reduceIte, not_true_eq_false, not_false_eq_true, n0T, n1F, n11T, true_or, or_true, false_or]
  · rw [if_neg hm]
    by_cases hv : zHas v (σ 0)
    · rw [if_pos hv]
      by_cases hh : zBtw h 0 96
      · rw [if_pos hh]
        have hadd := m_add (sc := sc) (d := d + 1) (f := f) (a := a) (j := j) (r := r) (n := σ cnt) (x := v) (y := h) (z := nI 0) hr hR.1 (by omega)
        rw [hcap] at hadd
        by_cases hf : σ cnt < cap
        · rw [if_pos hf]
          rw [if_pos hf] at hadd
          obtain ⟨g, hg, rfl⟩ := zHas_of (by omega) hv
          obtain ⟨m, m1, m2, rfl⟩ := zBtw_of (by omega) (by omega) hh
          rw [nI_clamp (n := g) (by omega), nI_clamp (n := m) (by omega)]
          have hp := hR.push (x := g) (y := m) (z := nI 0) hc (by omega) (by omega)
          refine ⟨_, _, ?_, hp, fun k hk => zuF_nk hk, fun k hk => by rw [zuA_nk (by omega), zuA_nk (by omega), zuA_nk (by omega)]⟩
          simp only [q104_0, q104_1, q104_2, q104_5, q104_6, q104_7, q104_10, q104_11, q104_12, q104_13, q104_16, q104_19, q104_20, q104_23, q104_26, q104_27, q104_28, q104_29, q104_30, q104_32, q104_35, q104_38, q104_40, q104_41, q104_42, q104_43, q104_44, q104_45, q104_48, hr, hm, isW_1, isC_2, Nat.reduceAdd, m_hasField isC_2 h6 h8, m_isWithin, eq_true hv, eq_true hh, hadd, zCall_some, Option.toList, List.cons_append, List.nil_append, zb_0, zb_1, zem, z01, z11, nI_add, ↓reduceIte, not_true_eq_false, not_false_eq_true, n0T, n1F, n11T, true_or, or_true, false_or]
        · rw [if_neg hf]
          rw [if_neg hf] at hadd
          refine ⟨f, a, ?_, hR, fun _ _ => rfl, fun _ _ => rfl⟩
          simp only [q104_0, q104_1, q104_2, q104_5, q104_6, q104_7, q104_10, q104_11, q104_12, q104_13, q104_16, q104_19, q104_20, q104_23, q104_26, q104_27, q104_28, q104_29, q104_30, q104_32, q104_35, q104_38, q104_40, q104_41, q104_42, q104_43, q104_44, q104_45, q104_48, hr, hm, isW_1, isC_2, Nat.reduceAdd, m_hasField isC_2 h6 h8, m_isWithin, eq_true hv, eq_true hh, hadd, zCall_some, Option.toList, List.cons_append, List.nil_append, zb_0, zb_1, zem, z01, z11, nI_add, ↓reduceIte, not_true_eq_false, not_false_eq_true, n0T, n1F, n11T, true_or, or_true, false_or]
      · rw [if_neg hh]
        refine ⟨f, a, ?_, hR, fun _ _ => rfl, fun _ _ => rfl⟩
        simp only [q104_0, q104_1, q104_2, q104_5, q104_6, q104_7, q104_10, q104_11, q104_12, q104_13, q104_16, q104_19, q104_20, q104_23, q104_26, q104_27, q104_28, q104_29, q104_30, q104_32, q104_35, q104_38, q104_40, q104_41, q104_42, q104_43, q104_44, q104_45, q104_48, hr, hm, isW_1, isC_2, Nat.reduceAdd, m_hasField isC_2 h6 h8, m_isWithin, eq_true hv, eq_false hh, zCall_some, Option.toList, List.cons_append, List.nil_append, zb_0, zb_1, zem, z01, z11, nI_add, ↓reduceIte, not_true_eq_false, not_false_eq_true, n0T, n1F, n11T, true_or, or_true, false_or]
    · rw [if_neg hv]
      refine ⟨f, a, ?_, hR, fun _ _ => rfl, fun _ _ => rfl⟩
      simp only [q104_0, q104_1, q104_2, q104_5, q104_6, q104_7, q104_10, q104_11, q104_12, q104_13, q104_16, q104_19, q104_20, q104_23, q104_26, q104_27, q104_28, q104_29, q104_30, q104_32, q104_35, q104_38, q104_40, q104_41, q104_42, q104_43, q104_44, q104_45, q104_48, hr, hm, isW_1, isC_2, Nat.reduceAdd, m_hasField isC_2 h6 h8, m_isWithin, eq_false hv, zCall_some, Option.toList, List.cons_append, List.nil_append, zb_0, zb_1, zem, z01, z11, nI_add, ↓reduceIte, not_true_eq_false, not_false_eq_true, n0T, n1F, n11T, true_or, or_true, false_or]
theorem rwU_ne {cnt p q x y i : Nat} {σ : Nat → Nat} (h1 : i ≠ cnt) (h2 : i ≠ p + σ cnt) (h3 : i ≠ q + σ cnt) : rwU cnt p q σ x y i = σ i := by unfold rwU; rw [zup_ne h1, zup_ne h3, zup_ne h2]
theorem rwU_cnt {cnt p q x y : Nat} {σ : Nat → Nat} : rwU cnt p q σ x y cnt = σ cnt + 1 := zup_eq
theorem rwU_p {cnt p q x y : Nat} {σ : Nat → Nat} (hc : cnt < p) (hpq : p + σ cnt < q) : rwU cnt p q σ x y (p + σ cnt) = x := by unfold rwU; rw [zup_ne (by omega), zup_ne (by omega), zup_eq]
theorem rwU_q {cnt p q x y : Nat} {σ : Nat → Nat} (hc : cnt < p) (hpq : p + σ cnt < q) : rwU cnt p q σ x y (q + σ cnt) = y := by unfold rwU; rw [zup_ne (by omega), zup_eq]
theorem tl_ag {cnt p q cap : Nat} {σ : Nat → Nat} {v h : Int32} : ∀ i, i ≠ cnt → (i < p ∨ p + cap ≤ i) → (i < q ∨ q + cap ≤ i) → (tlS cnt p q cap σ v h).2 i = σ i := by
  intro i h1 h2 h3
  unfold tlS
  split
  · exact zup_ne h1
  · split
    · split
      · split
        · exact rwU_ne h1 (by omega) (by omega)
        · rfl
      · rfl
    · rfl
theorem tl_ok {cnt p q cap : Nat} {σ : Nat → Nat} {v h : Int32} (hc : cnt < p) (hpq : p + cap ≤ q) (h8 : σ 0 ≤ 8) (hle : σ cnt ≤ cap) (hk : ∀ k, k < σ cnt → σ (p + k) < σ 0 ∧ σ (q + k) ≤ 96) : (tlS cnt p q cap σ v h).2 cnt ≤ cap ∧ ∀ k, k < (tlS cnt p q cap σ v h).2 cnt → (tlS cnt p q cap σ v h).2 (p + k) < σ 0 ∧ (tlS cnt p q cap σ v h).2 (q + k) ≤ 96 := by
  unfold tlS
  split
  · dsimp only
    rw [zup_eq]
    exact ⟨by omega, fun k hk => by omega⟩
  · split
    · rename_i hv
      split
      · rename_i hh
        split
        · rename_i hf
          obtain ⟨g, hg, rfl⟩ := zHas_of (by omega) hv
          obtain ⟨m, m1, m2, rfl⟩ := zBtw_of (by omega) (by omega) hh
          dsimp only
          rw [nI_clamp (n := g) (by omega), nI_clamp (n := m) (by omega), rwU_cnt]
          refine ⟨by omega, fun k hk' => ?_⟩
          by_cases w : k = σ cnt
          · rw [w, rwU_p hc (by omega), rwU_q hc (by omega)]
            exact ⟨hg, m2⟩
          · rw [rwU_ne (by omega) (by omega) (by omega), rwU_ne (by omega) (by omega) (by omega)]
            exact hk k (by omega)
        · exact ⟨hle, hk⟩
      · exact ⟨hle, hk⟩
    · exact ⟨hle, hk⟩
theorem WR.rows {σ τ : Nat → Nat} {f f' : zF} {a a' : zA} (hW : WR 1 σ f a) (hV : VS σ) (e : Agc σ τ) (hf : ∀ k, k < 11 → f' k = f k) (ha : ∀ k, k < 11 → a' k = a k) : CR0 (1 + 1) τ f' a' ∧ (f' (1 + 1) 7 = nI (τ 1) ∧ f' (1 + 1) 8 = nI (τ 3) ∧ f' (1 + 1) 9 = nI (τ 2)) := by
  have h := (hW.cr).cong hV.1.1.1 hV.2.1.1 e
  unfold CR CR0 at h
  unfold CR0
  rw [hf (1 + 1) (by omega), hf (1 + 1 + 5) (by omega), ha (1 + 1 + 1) (by omega), ha (1 + 1 + 2) (by omega), ha (1 + 1 + 3) (by omega), ha (1 + 1 + 4) (by omega), ha (1 + 1 + 6) (by omega), ha (1 + 1 + 7) (by omega), ha (1 + 1 + 8) (by omega)]
  exact h
theorem x_see {sc : Int32 × (Int32 → Int32)} {f : zF} {a : zA} {j : zJ} {d : Nat} {σ : Nat → Nat} {v h : Int32} (hW : WR 1 σ f a) (hV : VS σ) : ∃ (f' : zF) (a' : zA), cf sc (d + 4) 77 [.ref 0, .int v, .int h] f a j = some (some (.int (tlS 5 76 81 5 σ v h).1), f', a', j) ∧ WR 1 (tlS 5 76 81 5 σ v h).2 f' a' ∧ VS (tlS 5 76 81 5 σ v h).2 ∧ FrW f f' a a' := by
  obtain ⟨v1, v2, ⟨v3, v4⟩, ⟨v5, v6⟩, ⟨v7, v8⟩⟩ := hV
  have hn := v1.1.1
  obtain ⟨f1, a1, h1, h2, h3, h4⟩ := m_tellHours (sc := sc) (d := d) (j := j) (r := 11) (cap := 5) (v := v) (h := h) isR_11 rfl hW.2.2.1 v3 (by omega) (by omega) hW.1.1 hn
  have e : ∀ i, i ≠ 5 → (i < 76 ∨ 86 ≤ i) → (tlS 5 76 81 5 σ v h).2 i = σ i := fun i q1 q2 => tl_ag i q1 (by omega) (by omega)
  have hA : Agc σ (tlS 5 76 81 5 σ v h).2 := fun i hi => e i (by omega) (by omega)
  have ho := tl_ok (v := v) (h := h) (cap := 5) (by omega) (by omega) hn v3 v4
  obtain ⟨w1, w2⟩ := hW.rows ⟨v1, v2, ⟨v3, v4⟩, ⟨v5, v6⟩, ⟨v7, v8⟩⟩ hA (fun k hk => h3 k (by omega)) (fun k hk => h4 k (by omega))
  refine ⟨f1, a1, ?_, ⟨w1, w2, h2, hW.2.2.2.1.of (e _ (by omega) (by omega)) (fun k _ => ⟨e _ (by omega) (by omega), e _ (by omega) (by omega)⟩) (h3 _ (by omega)) (h4 _ (by omega)) (h4 _ (by omega)), hW.2.2.2.2.of (e _ (by omega) (by omega)) (fun k _ => ⟨e _ (by omega) (by omega), e _ (by omega) (by omega)⟩) (h3 _ (by omega)) (h4 _ (by omega)) (h4 _ (by omega))⟩, ⟨VC.cong (fun i hi => hA i (by omega)) v1, v2.cong v1.1 hA, ?_, ?_, ?_⟩, ⟨fun k hk => h3 k (by omega), fun k hk => h4 k (by omega)⟩⟩
  · rw [en77]
    simp only [q77_0, q77_1, q77_2, q77_5, q77_8, q77_9, q77_10, q77_13, isW_1, isR_11, Nat.reduceAdd, h1, zCall_some, Option.toList, List.cons_append, List.nil_append, zb_0, zb_1, zem, z01, z11, nI_add, ↓reduceIte, not_true_eq_false, not_false_eq_true, n0T, n1F, n11T, true_or, or_true, false_or]
  · rw [e 0 (by omega) (by omega)]; exact ho
  · rw [e 0 (by omega) (by omega), e 6 (by omega) (by omega)]
    refine ⟨v5, fun k hk => ?_⟩
    rw [e (86 + k) (by omega) (by omega), e (94 + k) (by omega) (by omega)]; exact v6 k hk
  · rw [e 0 (by omega) (by omega), e 7 (by omega) (by omega)]
    refine ⟨v7, fun k hk => ?_⟩
    rw [e (102 + k) (by omega) (by omega), e (110 + k) (by omega) (by omega)]; exact v8 k hk
theorem x_book {sc : Int32 × (Int32 → Int32)} {f : zF} {a : zA} {j : zJ} {d : Nat} {σ : Nat → Nat} {v h : Int32} (hW : WR 1 σ f a) (hV : VS σ) : ∃ (f' : zF) (a' : zA), cf sc (d + 4) 83 [.ref 0, .int v, .int h] f a j = some (some (.int (tlS 7 102 110 8 σ v h).1), f', a', j) ∧ WR 1 (tlS 7 102 110 8 σ v h).2 f' a' ∧ VS (tlS 7 102 110 8 σ v h).2 ∧ FrW f f' a a' := by
  obtain ⟨v1, v2, ⟨v3, v4⟩, ⟨v5, v6⟩, ⟨v7, v8⟩⟩ := hV
  have hn := v1.1.1
  obtain ⟨f1, a1, h1, h2, h3, h4⟩ := m_tellHours (sc := sc) (d := d) (j := j) (r := 19) (cap := 8) (v := v) (h := h) isR_19 rfl hW.2.2.2.2 v7 (by omega) (by omega) hW.1.1 hn
  have e : ∀ i, i ≠ 7 → (i < 102 ∨ 118 ≤ i) → (tlS 7 102 110 8 σ v h).2 i = σ i := fun i q1 q2 => tl_ag i q1 (by omega) (by omega)
  have hA : Agc σ (tlS 7 102 110 8 σ v h).2 := fun i hi => e i (by omega) (by omega)
  have ho := tl_ok (v := v) (h := h) (cap := 8) (by omega) (by omega) hn v7 v8
  obtain ⟨w1, w2⟩ := hW.rows ⟨v1, v2, ⟨v3, v4⟩, ⟨v5, v6⟩, ⟨v7, v8⟩⟩ hA (fun k hk => h3 k (by omega)) (fun k hk => h4 k (by omega))
  refine ⟨f1, a1, ?_, ⟨w1, w2, hW.2.2.1.of (e _ (by omega) (by omega)) (fun k _ => ⟨e _ (by omega) (by omega), e _ (by omega) (by omega)⟩) (h3 _ (by omega)) (h4 _ (by omega)) (h4 _ (by omega)), hW.2.2.2.1.of (e _ (by omega) (by omega)) (fun k _ => ⟨e _ (by omega) (by omega), e _ (by omega) (by omega)⟩) (h3 _ (by omega)) (h4 _ (by omega)) (h4 _ (by omega)), h2⟩, ⟨VC.cong (fun i hi => hA i (by omega)) v1, v2.cong v1.1 hA, ?_, ?_, ?_⟩, ⟨fun k hk => h3 k (by omega), fun k hk => h4 k (by omega)⟩⟩
  · rw [en83]
    simp only [q83_0, q83_1, q83_2, q83_5, q83_8, q83_9, q83_10, q83_13, isW_1, isR_19, Nat.reduceAdd, h1, zCall_some, Option.toList, List.cons_append, List.nil_append, zb_0, zb_1, zem, z01, z11, nI_add, ↓reduceIte, not_true_eq_false, not_false_eq_true, n0T, n1F, n11T, true_or, or_true, false_or]
  · rw [e 0 (by omega) (by omega), e 5 (by omega) (by omega)]
    refine ⟨v3, fun k hk => ?_⟩
    rw [e (76 + k) (by omega) (by omega), e (81 + k) (by omega) (by omega)]; exact v4 k hk
  · rw [e 0 (by omega) (by omega), e 6 (by omega) (by omega)]
    refine ⟨v5, fun k hk => ?_⟩
    rw [e (86 + k) (by omega) (by omega), e (94 + k) (by omega) (by omega)]; exact v6 k hk
  · rw [e 0 (by omega) (by omega)]; exact ho
