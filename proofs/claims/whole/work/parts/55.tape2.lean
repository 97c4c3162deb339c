/-! ===== the class: item, peek, shift, judge ===== -/
def aiS (s : Int32) (v : Int64) : Int64 := if s = nI 0 then v.toInt32.toInt8.toInt32.toInt64 else if s = nI 1 then v.toInt32.toInt16.toInt32.toInt64 else if s = nI 2 then v.toInt32.toInt64 else if s = nI 4 then (if v = 0 then 0 else 1) else v
theorem m_asItem {sc : Int32 × (Int32 → Int32)} {f : zF} {a : zA} {j : zJ} {d p : Nat} {s : Int32} {v : Int64} (hp : isP p) (hs : f p 1 = s) : cf sc (d + 1) 28 [.ref p, .long v] f a j = some (some (.long (aiS s v)), f, a, j) := by
  have e0 : (lg_cmp v 0 = 0) = (v = 0) := propext (lg_cmp_eq v 0)
  rw [en28]
  unfold aiS
  by_cases h0 : s = nI 0
  · rw [h0] at hs ⊢
    simp only [q28_0, q28_1, q28_4, q28_40, q28_41, q28_42, q28_43, q28_44, q28_45, q28_46, q28_47, q28_48, q28_49, q28_50, q28_51, q28_52, q28_53, q28_54, q28_55, q28_56, q28_57, q28_60, q28_61, q28_64, q28_65, q28_66, q28_67, hp, hs, zCall_some, Option.toList, List.cons_append, List.nil_append, zb_0, zb_1, zem, z01, z11, nI_add, ↓reduceIte, not_true_eq_false, not_false_eq_true, n0T, n1F, n11T, true_or, or_true, false_or]
  · by_cases h1 : s = nI 1
    · rw [h1] at hs ⊢
      simp only [q28_0, q28_1, q28_4, q28_40, q28_41, q28_42, q28_43, q28_44, q28_45, q28_46, q28_47, q28_48, q28_49, q28_50, q28_51, q28_52, q28_53, q28_54, q28_55, q28_56, q28_57, q28_60, q28_61, q28_64, q28_65, q28_66, q28_67, hp, hs, ne1_0, zCall_some, Option.toList, List.cons_append, List.nil_append, zb_0, zb_1, zem, z01, z11, nI_add, ↓reduceIte, not_true_eq_false, not_false_eq_true, n0T, n1F, n11T, true_or, or_true, false_or]
    · by_cases h2 : s = nI 2
      · rw [h2] at hs ⊢
        simp only [q28_0, q28_1, q28_4, q28_40, q28_41, q28_42, q28_43, q28_44, q28_45, q28_46, q28_47, q28_48, q28_49, q28_50, q28_51, q28_52, q28_53, q28_54, q28_55, q28_56, q28_57, q28_60, q28_61, q28_64, q28_65, q28_66, q28_67, hp, hs, ne2_0, ne2_1, zCall_some, Option.toList, List.cons_append, List.nil_append, zb_0, zb_1, zem, z01, z11, nI_add, ↓reduceIte, not_true_eq_false, not_false_eq_true, n0T, n1F, n11T, true_or, or_true, false_or]
      · by_cases h4 : s = nI 4
        · rw [h4] at hs ⊢
          by_cases hv : v = 0
          · simp only [q28_0, q28_1, q28_4, q28_40, q28_41, q28_42, q28_43, q28_44, q28_45, q28_46, q28_47, q28_48, q28_49, q28_50, q28_51, q28_52, q28_53, q28_54, q28_55, q28_56, q28_57, q28_60, q28_61, q28_64, q28_65, q28_66, q28_67, hp, hs, ne4_0, ne4_1, ne4_2, ne4_3, lg_cmp_eq, hv, zCall_some, Option.toList, List.cons_append, List.nil_append, zb_0, zb_1, zem, z01, z11, nI_add, ↓reduceIte, not_true_eq_false, not_false_eq_true, n0T, n1F, n11T, true_or, or_true, false_or]
          · simp only [q28_0, q28_1, q28_4, q28_40, q28_41, q28_42, q28_43, q28_44, q28_45, q28_46, q28_47, q28_48, q28_49, q28_50, q28_51, q28_52, q28_53, q28_54, q28_55, q28_56, q28_57, q28_60, q28_61, q28_64, q28_65, q28_66, q28_67, hp, hs, ne4_0, ne4_1, ne4_2, ne4_3, lg_cmp_eq, hv, zCall_some, Option.toList, List.cons_append, List.nil_append, zb_0, zb_1, zem, z01, z11, nI_add, ↓reduceIte, not_true_eq_false, not_false_eq_true, n0T, n1F, n11T, true_or, or_true, false_or]
        · by_cases h3 : s = nI 3
          · rw [h3] at hs ⊢
            simp only [q28_0, q28_1, q28_4, q28_40, q28_41, q28_42, q28_43, q28_44, q28_45, q28_46, q28_47, q28_48, q28_49, q28_50, q28_51, q28_52, q28_53, q28_54, q28_55, q28_56, q28_57, q28_60, q28_61, q28_64, q28_65, q28_66, q28_67, hp, hs, ne3_0, ne3_1, ne3_2, ne3_4, zCall_some, Option.toList, List.cons_append, List.nil_append, zb_0, zb_1, zem, z01, z11, nI_add, ↓reduceIte, not_true_eq_false, not_false_eq_true, n0T, n1F, n11T, true_or, or_true, false_or]
          · simp only [q28_0, q28_1, q28_4, q28_40, q28_41, q28_42, q28_43, q28_44, q28_45, q28_46, q28_47, q28_48, q28_49, q28_50, q28_51, q28_52, q28_53, q28_54, q28_55, q28_56, q28_57, q28_60, q28_61, q28_64, q28_65, q28_66, q28_67, hp, hs, h0, h1, h2, h3, h4, zCall_some, Option.toList, List.cons_append, List.nil_append, zb_0, zb_1, zem, z01, z11, nI_add, ↓reduceIte, not_true_eq_false, not_false_eq_true, n0T, n1F, n11T, true_or, or_true, false_or]
def itS (T : TS) (v i : Int32) (x : Int64) : Int32 × TS := if zBtw v 0 5 then (if (T v.toNatClampNeg).1 = -1 then (-11, T) else if zHas i (T v.toNatClampNeg).2.1 then (nI 1, tup T v.toNatClampNeg ((T v.toNatClampNeg).1, (T v.toNatClampNeg).2.1, fun k => if k = i.toNatClampNeg then aiS (T v.toNatClampNeg).1 x else (T v.toNatClampNeg).2.2 k)) else (-13, T)) else (-1, T)
theorem x_item {sc : Int32 × (Int32 → Int32)} {f : zF} {a : zA} {j : zJ} {d : Nat} {T : TS} {v i : Int32} {x : Int64} (hT : TP T f j) (hV : VT T) : ∃ j' : zJ, cf sc (d + 3) 90 [.ref 0, .int v, .int i, .long x] f a j = some (some (.int (itS T v i x).1), f, a, j') ∧ TP (itS T v i x).2 f j' ∧ VT (itS T v i x).2 ∧ FrP f f j j' := by
  rw [en90]
  unfold itS
  by_cases hv : zBtw v 0 5
  · rw [if_pos hv]
    obtain ⟨t, t1, t2, rfl⟩ := zBtw_of (by omega) (by omega) hv
    have ht : t < 6 := by omega
    have hp := isP_t ht
    have hx := ix72 ht
    have ec : (nI t).toNatClampNeg = t := nI_clamp (by omega)
    rw [ec]
    obtain ⟨f1, f2, f3⟩ := hT t ht
    have h60 := hV.le ht
    by_cases hs : (T t).1 = -1
    · rw [if_pos hs]
      refine ⟨j, ?_, hT, hV, FrP.rf⟩
      simp only [q90_0, q90_1, q90_2, q90_5, q90_7, q90_9, q90_12, q90_13, q90_14, q90_16, q90_19, q90_20, q90_23, q90_25, q90_26, q90_27, q90_28, q90_30, q90_33, q90_34, q90_35, q90_38, q90_41, q90_43, q90_44, q90_46, q90_49, q90_50, q90_52, q90_53, q90_56, q90_57, q90_58, m_isWithin, m_tapeT ht, nT ht, hp, f1, hs, zCall_some, Option.toList, List.cons_append, List.nil_append, zb_0, zb_1, zem, z01, z11, nI_add, ↓reduceIte, not_true_eq_false, not_false_eq_true, n0T, n1F, n11T, true_or, or_true, false_or]
    · rw [if_neg hs]
      have e2 := zb_iff (has_iff (v := i) (n := (T t).2.1) (by omega))
      by_cases hi : zHas i (T t).2.1
      · rw [if_pos hi]
        obtain ⟨q, hq, rfl⟩ := zHas_of (by omega) hi
        rw [nI_clamp (n := q) (by omega)]
        have ix : zIx 22 (73 + 2 * t + 1) (nI q) := ixP hp (by omega)
        have ha := m_asItem (sc := sc) (d := d + 1) (f := f) (a := a) (j := j) (v := x) hp f1
        refine ⟨zuJ j (73 + 2 * t + 1) (nI q) (aiS (T t).1 x), ?_, hT.up f1 f2 (fun k hk => ?_) (fun _ _ => rfl) (fun k hk => zuJ_nk hk), hV.up ?_, ⟨fun _ _ => rfl, fun k hk => zuJ_nk (by omega)⟩⟩
        · simp only [q90_0, q90_1, q90_2, q90_5, q90_7, q90_9, q90_12, q90_13, q90_14, q90_16, q90_19, q90_20, q90_23, q90_25, q90_26, q90_27, q90_28, q90_30, q90_33, q90_34, q90_35, q90_38, q90_41, q90_43, q90_44, q90_46, q90_49, q90_50, q90_52, q90_53, q90_56, q90_57, q90_58, m_isWithin, m_tapeT ht, nT ht, hp, f1, f2, hs, e2, eq_true hi, ix, ha, zCall_some, Option.toList, List.cons_append, List.nil_append, zb_0, zb_1, zem, z01, z11, nI_add, ↓reduceIte, not_true_eq_false, not_false_eq_true, n0T, n1F, n11T, true_or, or_true, false_or]
        · dsimp only at hk ⊢
          by_cases e : k = q
          · rw [e, if_pos rfl]; exact zuJ_eq
          · rw [if_neg e, zuJ_ni (nI_ne (by omega) (by omega) e)]; exact f3 k hk
        · exact hV t ht
      · rw [if_neg hi]
        refine ⟨j, ?_, hT, hV, FrP.rf⟩
        simp only [q90_0, q90_1, q90_2, q90_5, q90_7, q90_9, q90_12, q90_13, q90_14, q90_16, q90_19, q90_20, q90_23, q90_25, q90_26, q90_27, q90_28, q90_30, q90_33, q90_34, q90_35, q90_38, q90_41, q90_43, q90_44, q90_46, q90_49, q90_50, q90_52, q90_53, q90_56, q90_57, q90_58, m_isWithin, m_tapeT ht, nT ht, hp, f1, f2, hs, e2, eq_false hi, zCall_some, Option.toList, List.cons_append, List.nil_append, zb_0, zb_1, zem, z01, z11, nI_add, ↓reduceIte, not_true_eq_false, not_false_eq_true, n0T, n1F, n11T, true_or, or_true, false_or]
  · rw [if_neg hv]
    refine ⟨j, ?_, hT, hV, FrP.rf⟩
    simp only [q90_0, q90_1, q90_2, q90_5, q90_7, q90_9, q90_12, q90_13, q90_14, q90_16, q90_19, q90_20, q90_23, q90_25, q90_26, q90_27, q90_28, q90_30, q90_33, q90_34, q90_35, q90_38, q90_41, q90_43, q90_44, q90_46, q90_49, q90_50, q90_52, q90_53, q90_56, q90_57, q90_58, m_tapeN hv, zCall_some, Option.toList, List.cons_append, List.nil_append, zb_0, zb_1, zem, z01, z11, nI_add, ↓reduceIte, not_true_eq_false, not_false_eq_true, n0T, n1F, n11T, true_or, or_true, false_or]
def pkS (T : TS) (v i : Int32) : Int64 := if zBtw v 0 5 ∧ zHas i (T v.toNatClampNeg).2.1 then (T v.toNatClampNeg).2.2 i.toNatClampNeg else sNO
theorem x_peek {sc : Int32 × (Int32 → Int32)} {f : zF} {a : zA} {j : zJ} {d : Nat} {T : TS} {v i : Int32} (hT : TP T f j) (hV : VT T) : cf sc (d + 3) 91 [.ref 0, .int v, .int i] f a j = some (some (.long (pkS T v i)), f, a, j) := by
  rw [en91]
  unfold pkS sNO
  by_cases hv : zBtw v 0 5
  · obtain ⟨t, t1, t2, rfl⟩ := zBtw_of (by omega) (by omega) hv
    have ht : t < 6 := by omega
    have hp := isP_t ht
    have hx := ix72 ht
    have ec : (nI t).toNatClampNeg = t := nI_clamp (by omega)
    rw [ec]
    obtain ⟨f1, f2, f3⟩ := hT t ht
    have h60 := hV.le ht
    have e2 := zb_iff (has_iff (v := i) (n := (T t).2.1) (by omega))
    by_cases hi : zHas i (T t).2.1
    · rw [if_pos ⟨hv, hi⟩]
      obtain ⟨q, hq, rfl⟩ := zHas_of (by omega) hi
      rw [nI_clamp (n := q) (by omega)]
      have ix : zIx 22 (73 + 2 * t + 1) (nI q) := ixP hp (by omega)
      simp only [q91_0, q91_1, q91_2, q91_5, q91_6, q91_7, q91_10, q91_11, q91_12, q91_13, q91_16, q91_17, q91_18, q91_21, q91_24, q91_27, q91_28, q91_29, q91_32, q91_33, q91_34, m_isWithin, m_tapeT ht, nT ht, hp, f2, e2, eq_true hi, ix, f3 q hq, zCall_some, Option.toList, List.cons_append, List.nil_append, zb_0, zb_1, zem, z01, z11, nI_add, ↓reduceIte, not_true_eq_false, not_false_eq_true, n0T, n1F, n11T, true_or, or_true, false_or]
    · rw [if_neg (fun q => hi q.2)]
      simp only [q91_0, q91_1, q91_2, q91_5, q91_6, q91_7, q91_10, q91_11, q91_12, q91_13, q91_16, q91_17, q91_18, q91_21, q91_24, q91_27, q91_28, q91_29, q91_32, q91_33, q91_34, m_isWithin, m_tapeT ht, nT ht, hp, f2, e2, eq_false hi, zCall_some, Option.toList, List.cons_append, List.nil_append, zb_0, zb_1, zem, z01, z11, nI_add, ↓reduceIte, not_true_eq_false, not_false_eq_true, n0T, n1F, n11T, true_or, or_true, false_or]
  · rw [if_neg (fun q => hv q.1)]
    simp only [q91_0, q91_1, q91_2, q91_5, q91_6, q91_7, q91_10, q91_11, q91_12, q91_13, q91_16, q91_17, q91_18, q91_21, q91_24, q91_27, q91_28, q91_29, q91_32, q91_33, q91_34, m_tapeN hv, zCall_some, Option.toList, List.cons_append, List.nil_append, zb_0, zb_1, zem, z01, z11, nI_add, ↓reduceIte, not_true_eq_false, not_false_eq_true, n0T, n1F, n11T, true_or, or_true, false_or]
/-- a stretch of n from i on lies within z -/
abbrev hsP (i n : Int32) (z : Nat) : Prop := ¬ i < 0 ∧ ¬ n < 0 ∧ i.toNatClampNeg + n.toNatClampNeg ≤ z
theorem m_hasStretch {sc : Int32 × (Int32 → Int32)} {f : zF} {a : zA} {j : zJ} {d p z : Nat} {i n : Int32} (hp : isP p) (hz : f p 2 = nI z) (h60 : z ≤ 60) : cf sc (d + 1) 29 [.ref p, .int i, .int n] f a j = some (some (.int (zb (hsP i n z))), f, a, j) := by
  rw [en29]
  by_cases hi : i < 0
  · rw [zb_f (fun q => q.1 hi)]
    simp only [q29_0, q29_1, q29_4, q29_5, q29_8, q29_9, q29_10, q29_13, q29_16, q29_17, q29_18, q29_21, q29_22, q29_23, q29_26, q29_27, q29_30, q29_31, hp, hi, zCall_some, Option.toList, List.cons_append, List.nil_append, zb_0, zb_1, zem, z01, z11, nI_add, ↓reduceIte, not_true_eq_false, not_false_eq_true, n0T, n1F, n11T, true_or, or_true, false_or]
  · by_cases hn : n < 0
    · rw [zb_f (fun q => q.2.1 hn)]
      simp only [q29_0, q29_1, q29_4, q29_5, q29_8, q29_9, q29_10, q29_13, q29_16, q29_17, q29_18, q29_21, q29_22, q29_23, q29_26, q29_27, q29_30, q29_31, hp, hi, hn, zCall_some, Option.toList, List.cons_append, List.nil_append, zb_0, zb_1, zem, z01, z11, nI_add, ↓reduceIte, not_true_eq_false, not_false_eq_true, n0T, n1F, n11T, true_or, or_true, false_or]
    · obtain ⟨x, hx, rfl⟩ := nI_of hi
      obtain ⟨y, hy, rfl⟩ := nI_of hn
      have e1 : (nI x).toNatClampNeg = x := nI_clamp hx
      have e2 : (nI y).toNatClampNeg = y := nI_clamp hy
      by_cases h1 : z < y
      · rw [zb_f (fun q => by have := q.2.2; rw [e1, e2] at this; omega)]
        have c1 : nI z < nI y := nI_lt h1 (by omega)
        simp only [q29_0, q29_1, q29_4, q29_5, q29_8, q29_9, q29_10, q29_13, q29_16, q29_17, q29_18, q29_21, q29_22, q29_23, q29_26, q29_27, q29_30, q29_31, hp, hi, hn, hz, c1, zCall_some, Option.toList, List.cons_append, List.nil_append, zb_0, zb_1, zem, z01, z11, nI_add, ↓reduceIte, not_true_eq_false, not_false_eq_true, n0T, n1F, n11T, true_or, or_true, false_or]
      · have c1 : ¬ nI z < nI y := nI_nlt (by omega) (by omega)
        have es : nI z - nI y = nI (z - y) := pk_sub (by omega)
        by_cases h2 : z - y < x
        · rw [zb_f (fun q => by have := q.2.2; rw [e1, e2] at this; omega)]
          have c2 : nI (z - y) < nI x := nI_lt h2 (by omega)
          simp only [q29_0, q29_1, q29_4, q29_5, q29_8, q29_9, q29_10, q29_13, q29_16, q29_17, q29_18, q29_21, q29_22, q29_23, q29_26, q29_27, q29_30, q29_31, hp, hi, hn, hz, c1, es, c2, zCall_some, Option.toList, List.cons_append, List.nil_append, zb_0, zb_1, zem, z01, z11, nI_add, ↓reduceIte, not_true_eq_false, not_false_eq_true, n0T, n1F, n11T, true_or, or_true, false_or]
        · have c2 : ¬ nI (z - y) < nI x := nI_nlt (by omega) (by omega)
          rw [zb_t ⟨hi, hn, by rw [e1, e2]; omega⟩]
          simp only [q29_0, q29_1, q29_4, q29_5, q29_8, q29_9, q29_10, q29_13, q29_16, q29_17, q29_18, q29_21, q29_22, q29_23, q29_26, q29_27, q29_30, q29_31, hp, hi, hn, hz, c1, es, c2, zCall_some, Option.toList, List.cons_append, List.nil_append, zb_0, zb_1, zem, z01, z11, nI_add, ↓reduceIte, not_true_eq_false, not_false_eq_true, n0T, n1F, n11T, true_or, or_true, false_or]
def shS (T : TS) (v i w k n : Int32) : Int32 × TS := if zBtw v 0 5 ∧ zBtw w 0 5 then (if (T v.toNatClampNeg).1 = -1 ∨ (T w.toNatClampNeg).1 = -1 then (-11, T) else if (T v.toNatClampNeg).1 = (T w.toNatClampNeg).1 then (if hsP i n (T v.toNatClampNeg).2.1 ∧ hsP k n (T w.toNatClampNeg).2.1 then (n, tup T w.toNatClampNeg ((T w.toNatClampNeg).1, (T w.toNatClampNeg).2.1, fun q => if k.toNatClampNeg ≤ q ∧ q < k.toNatClampNeg + n.toNatClampNeg then (T v.toNatClampNeg).2.2 (i.toNatClampNeg + (q - k.toNatClampNeg)) else (T w.toNatClampNeg).2.2 q)) else (-13, T)) else (-12, T)) else (-1, T)
theorem zcJ_at {j : zJ} {q d sp dp n i : Nat} (h1 : sp < 2 ^ 31) (h2 : dp < 2 ^ 31) (h3 : n < 2 ^ 31) (h4 : i < 2 ^ 31) : zcJ j q d (nI sp) (nI dp) (nI n) d (nI i) = if dp ≤ i ∧ i < dp + n then j q (nI (sp + (i - dp))) else j d (nI i) := by
  unfold zcJ
  rw [nI_clamp h1, nI_clamp h2, nI_clamp h3, nI_clamp h4]
  by_cases c : dp ≤ i ∧ i < dp + n
  · rw [if_pos c, if_pos ⟨rfl, nI_pos h4, c.1, c.2⟩]
  · rw [if_neg c, if_neg (fun z => c ⟨z.2.2.1, z.2.2.2⟩)]
theorem zcJ_nk {j : zJ} {q d k : Nat} {sp dp n : Int32} (h : k ≠ d) : zcJ j q d sp dp n k = j k := by
  funext i
  unfold zcJ
  rw [if_neg (fun z => h z.1)]
theorem x_shift {sc : Int32 × (Int32 → Int32)} {f : zF} {a : zA} {j : zJ} {d : Nat} {T : TS} {v i w k n : Int32} (hT : TP T f j) (hV : VT T) : ∃ j' : zJ, cf sc (d + 3) 92 [.ref 0, .int v, .int i, .int w, .int k, .int n] f a j = some (some (.int (shS T v i w k n).1), f, a, j') ∧ TP (shS T v i w k n).2 f j' ∧ VT (shS T v i w k n).2 ∧ FrP f f j j' := by
  rw [en92]
  unfold shS
  by_cases hv : zBtw v 0 5
  · by_cases hw : zBtw w 0 5
    · rw [if_pos ⟨hv, hw⟩]
      obtain ⟨t, t1, t2, rfl⟩ := zBtw_of (by omega) (by omega) hv
      obtain ⟨u, u1, u2, rfl⟩ := zBtw_of (by omega) (by omega) hw
      have ht : t < 6 := by omega
      have hu : u < 6 := by omega
      have hp := isP_t ht
      have hq := isP_t hu
      have hx := ix72 ht
      have hy := ix72 hu
      have ec : (nI t).toNatClampNeg = t := nI_clamp (by omega)
      have ed : (nI u).toNatClampNeg = u := nI_clamp (by omega)
      rw [ec, ed]
      obtain ⟨f1, f2, f3⟩ := hT t ht
      obtain ⟨g1, g2, g3⟩ := hT u hu
      have l1 := hV.le ht
      have l2 := hV.le hu
      by_cases s1 : (T t).1 = -1
      · rw [if_pos (Or.inl s1)]
        refine ⟨j, ?_, hT, hV, FrP.rf⟩
        simp only [q92_0, q92_1, q92_2, q92_5, q92_7, q92_8, q92_9, q92_12, q92_14, q92_16, q92_19, q92_21, q92_24, q92_25, q92_26, q92_28, q92_31, q92_32, q92_35, q92_37, q92_40, q92_41, q92_44, q92_46, q92_47, q92_49, q92_52, q92_54, q92_57, q92_60, q92_62, q92_63, q92_65, q92_66, q92_68, q92_71, q92_74, q92_76, q92_78, q92_80, q92_83, q92_86, q92_88, q92_89, q92_91, q92_94, q92_95, q92_97, q92_100, q92_102, q92_104, q92_107, q92_109, m_isWithin, m_tapeT ht, m_tapeT hu, nT ht, nT hu, hp, hq, f1, g1, s1, zCall_some, Option.toList, List.cons_append, List.nil_append, zb_0, zb_1, zem, z01, z11, nI_add, ↓reduceIte, not_true_eq_false, not_false_eq_true, n0T, n1F, n11T, true_or, or_true, false_or]
      · by_cases s2 : (T u).1 = -1
        · rw [if_pos (Or.inr s2)]
          refine ⟨j, ?_, hT, hV, FrP.rf⟩
          simp only [q92_0, q92_1, q92_2, q92_5, q92_7, q92_8, q92_9, q92_12, q92_14, q92_16, q92_19, q92_21, q92_24, q92_25, q92_26, q92_28, q92_31, q92_32, q92_35, q92_37, q92_40, q92_41, q92_44, q92_46, q92_47, q92_49, q92_52, q92_54, q92_57, q92_60, q92_62, q92_63, q92_65, q92_66, q92_68, q92_71, q92_74, q92_76, q92_78, q92_80, q92_83, q92_86, q92_88, q92_89, q92_91, q92_94, q92_95, q92_97, q92_100, q92_102, q92_104, q92_107, q92_109, m_isWithin, m_tapeT ht, m_tapeT hu, nT ht, nT hu, hp, hq, f1, g1, s1, s2, zCall_some, Option.toList, List.cons_append, List.nil_append, zb_0, zb_1, zem, z01, z11, nI_add, ↓reduceIte, not_true_eq_false, not_false_eq_true, n0T, n1F, n11T, true_or, or_true, false_or]
        · rw [if_neg (fun z => z.elim s1 s2)]
          by_cases s3 : (T t).1 = (T u).1
          · rw [if_pos s3]
            have h1 := m_hasStretch (sc := sc) (d := d + 1) (f := f) (a := a) (j := j) (i := i) (n := n) hp f2 l1
            have h2 := m_hasStretch (sc := sc) (d := d + 1) (f := f) (a := a) (j := j) (i := k) (n := n) hq g2 l2
            by_cases w1 : hsP i n (T t).2.1
            · have hn := w1.2.1
              by_cases w2 : hsP k n (T u).2.1
              · rw [if_pos ⟨w1, w2⟩]
                obtain ⟨x, x1, rfl⟩ := nI_of w1.1
                obtain ⟨y, y1, rfl⟩ := nI_of w2.1
                obtain ⟨m, m1, rfl⟩ := nI_of hn
                have a1 := w1.2.2
                have a2 := w2.2.2
                rw [nI_clamp x1, nI_clamp m1] at a1
                rw [nI_clamp y1, nI_clamp m1] at a2
                rw [nI_clamp x1, nI_clamp y1, nI_clamp m1]
                have k1 : zKd (73 + 2 * t + 1) = 22 ∧ zLn (73 + 2 * t + 1) = 60 := by rcases hp with q | q | q | q | q | q <;> rw [q] <;> exact ⟨rfl, rfl⟩
                have k2 : zKd (73 + 2 * u + 1) = 22 ∧ zLn (73 + 2 * u + 1) = 60 := by rcases hq with q | q | q | q | q | q <;> rw [q] <;> exact ⟨rfl, rfl⟩
                have cp : zCp 22 (73 + 2 * t + 1) (73 + 2 * u + 1) (nI x) (nI y) (nI m) := ⟨⟨k1.1, k2.1⟩, ⟨w1.1, w2.1, hn⟩, by rw [nI_clamp x1, nI_clamp m1, k1.2]; omega, by rw [nI_clamp y1, nI_clamp m1, k2.2]; omega⟩
                refine ⟨zcJ j (73 + 2 * t + 1) (73 + 2 * u + 1) (nI x) (nI y) (nI m), ?_, hT.up g1 g2 (fun q hq' => ?_) (fun _ _ => rfl) (fun q hq' => zcJ_nk hq'), hV.up (hV u hu), ⟨fun _ _ => rfl, fun q hq' => zcJ_nk (by omega)⟩⟩
                · simp only [q92_0, q92_1, q92_2, q92_5, q92_7, q92_8, q92_9, q92_12, q92_14, q92_16, q92_19, q92_21, q92_24, q92_25, q92_26, q92_28, q92_31, q92_32, q92_35, q92_37, q92_40, q92_41, q92_44, q92_46, q92_47, q92_49, q92_52, q92_54, q92_57, q92_60, q92_62, q92_63, q92_65, q92_66, q92_68, q92_71, q92_74, q92_76, q92_78, q92_80, q92_83, q92_86, q92_88, q92_89, q92_91, q92_94, q92_95, q92_97, q92_100, q92_102, q92_104, q92_107, q92_109, m_isWithin, m_tapeT ht, m_tapeT hu, nT ht, nT hu, hp, hq, f1, g1, s1, s2, eq_true s3, hn, h1, h2, eq_true w1, eq_true w2, cp, zCall_some, Option.toList, List.cons_append, List.nil_append, zb_0, zb_1, zem, z01, z11, nI_add, ↓reduceIte, not_true_eq_false, not_false_eq_true, n0T, n1F, n11T, true_or, or_true, false_or]
                · dsimp only at hq' ⊢
                  rw [zcJ_at x1 y1 m1 (by omega)]
                  by_cases c : y ≤ q ∧ q < y + m
                  · rw [if_pos c, if_pos c]; exact f3 _ (by omega)
                  · rw [if_neg c, if_neg c]; exact g3 q hq'
              · rw [if_neg (fun z => w2 z.2)]
                refine ⟨j, ?_, hT, hV, FrP.rf⟩
                simp only [q92_0, q92_1, q92_2, q92_5, q92_7, q92_8, q92_9, q92_12, q92_14, q92_16, q92_19, q92_21, q92_24, q92_25, q92_26, q92_28, q92_31, q92_32, q92_35, q92_37, q92_40, q92_41, q92_44, q92_46, q92_47, q92_49, q92_52, q92_54, q92_57, q92_60, q92_62, q92_63, q92_65, q92_66, q92_68, q92_71, q92_74, q92_76, q92_78, q92_80, q92_83, q92_86, q92_88, q92_89, q92_91, q92_94, q92_95, q92_97, q92_100, q92_102, q92_104, q92_107, q92_109, m_isWithin, m_tapeT ht, m_tapeT hu, nT ht, nT hu, hp, hq, f1, g1, s1, s2, eq_true s3, hn, h1, h2, eq_true w1, eq_false w2, zCall_some, Option.toList, List.cons_append, List.nil_append, zb_0, zb_1, zem, z01, z11, nI_add, ↓reduceIte, not_true_eq_false, not_false_eq_true, n0T, n1F, n11T, true_or, or_true, false_or]
            · rw [if_neg (fun z => w1 z.1)]
              refine ⟨j, ?_, hT, hV, FrP.rf⟩
              simp only [q92_0, q92_1, q92_2, q92_5, q92_7, q92_8, q92_9, q92_12, q92_14, q92_16, q92_19, q92_21, q92_24, q92_25, q92_26, q92_28, q92_31, q92_32, q92_35, q92_37, q92_40, q92_41, q92_44, q92_46, q92_47, q92_49, q92_52, q92_54, q92_57, q92_60, q92_62, q92_63, q92_65, q92_66, q92_68, q92_71, q92_74, q92_76, q92_78, q92_80, q92_83, q92_86, q92_88, q92_89, q92_91, q92_94, q92_95, q92_97, q92_100, q92_102, q92_104, q92_107, q92_109, m_isWithin, m_tapeT ht, m_tapeT hu, nT ht, nT hu, hp, hq, f1, g1, s1, s2, eq_true s3, h1, eq_false w1, zCall_some, Option.toList, List.cons_append, List.nil_append, zb_0, zb_1, zem, z01, z11, nI_add, ↓reduceIte, not_true_eq_false, not_false_eq_true, n0T, n1F, n11T, true_or, or_true, false_or]
          · rw [if_neg s3]
            refine ⟨j, ?_, hT, hV, FrP.rf⟩
            simp only [q92_0, q92_1, q92_2, q92_5, q92_7, q92_8, q92_9, q92_12, q92_14, q92_16, q92_19, q92_21, q92_24, q92_25, q92_26, q92_28, q92_31, q92_32, q92_35, q92_37, q92_40, q92_41, q92_44, q92_46, q92_47, q92_49, q92_52, q92_54, q92_57, q92_60, q92_62, q92_63, q92_65, q92_66, q92_68, q92_71, q92_74, q92_76, q92_78, q92_80, q92_83, q92_86, q92_88, q92_89, q92_91, q92_94, q92_95, q92_97, q92_100, q92_102, q92_104, q92_107, q92_109, m_isWithin, m_tapeT ht, m_tapeT hu, nT ht, nT hu, hp, hq, f1, g1, s1, s2, eq_false s3, zCall_some, Option.toList, List.cons_append, List.nil_append, zb_0, zb_1, zem, z01, z11, nI_add, ↓reduceIte, not_true_eq_false, not_false_eq_true, n0T, n1F, n11T, true_or, or_true, false_or]
    · rw [if_neg (fun q => hw q.2)]
      obtain ⟨t, t1, t2, rfl⟩ := zBtw_of (by omega) (by omega) hv
      have ht : t < 6 := by omega
      refine ⟨j, ?_, hT, hV, FrP.rf⟩
      simp only [q92_0, q92_1, q92_2, q92_5, q92_7, q92_8, q92_9, q92_12, q92_14, q92_16, q92_19, q92_21, q92_24, q92_25, q92_26, q92_28, q92_31, q92_32, q92_35, q92_37, q92_40, q92_41, q92_44, q92_46, q92_47, q92_49, q92_52, q92_54, q92_57, q92_60, q92_62, q92_63, q92_65, q92_66, q92_68, q92_71, q92_74, q92_76, q92_78, q92_80, q92_83, q92_86, q92_88, q92_89, q92_91, q92_94, q92_95, q92_97, q92_100, q92_102, q92_104, q92_107, q92_109, m_tapeT ht, m_tapeN hw, nT ht, zCall_some, Option.toList, List.cons_append, List.nil_append, zb_0, zb_1, zem, z01, z11, nI_add, ↓reduceIte, not_true_eq_false, not_false_eq_true, n0T, n1F, n11T, true_or, or_true, false_or]
  · rw [if_neg (fun q => hv q.1)]
    refine ⟨j, ?_, hT, hV, FrP.rf⟩
    by_cases hw : zBtw w 0 5
    · obtain ⟨u, u1, u2, rfl⟩ := zBtw_of (by omega) (by omega) hw
      have hu : u < 6 := by omega
      simp only [q92_0, q92_1, q92_2, q92_5, q92_7, q92_8, q92_9, q92_12, q92_14, q92_16, q92_19, q92_21, q92_24, q92_25, q92_26, q92_28, q92_31, q92_32, q92_35, q92_37, q92_40, q92_41, q92_44, q92_46, q92_47, q92_49, q92_52, q92_54, q92_57, q92_60, q92_62, q92_63, q92_65, q92_66, q92_68, q92_71, q92_74, q92_76, q92_78, q92_80, q92_83, q92_86, q92_88, q92_89, q92_91, q92_94, q92_95, q92_97, q92_100, q92_102, q92_104, q92_107, q92_109, m_tapeN hv, m_tapeT hu, zCall_some, Option.toList, List.cons_append, List.nil_append, zb_0, zb_1, zem, z01, z11, nI_add, ↓reduceIte, not_true_eq_false, not_false_eq_true, n0T, n1F, n11T, true_or, or_true, false_or]
    · simp only [q92_0, q92_1, q92_2, q92_5, q92_7, q92_8, q92_9, q92_12, q92_14, q92_16, q92_19, q92_21, q92_24, q92_25, q92_26, q92_28, q92_31, q92_32, q92_35, q92_37, q92_40, q92_41, q92_44, q92_46, q92_47, q92_49, q92_52, q92_54, q92_57, q92_60, q92_62, q92_63, q92_65, q92_66, q92_68, q92_71, q92_74, q92_76, q92_78, q92_80, q92_83, q92_86, q92_88, q92_89, q92_91, q92_94, q92_95, q92_97, q92_100, q92_102, q92_104, q92_107, q92_109, m_tapeN hv, m_tapeN hw, zCall_some, Option.toList, List.cons_append, List.nil_append, zb_0, zb_1, zem, z01, z11, nI_add, ↓reduceIte, not_true_eq_false, not_false_eq_true, n0T, n1F, n11T, true_or, or_true, false_or]
