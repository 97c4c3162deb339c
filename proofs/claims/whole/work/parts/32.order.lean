/-! ===== Math.floorMod, the class: comesAt, isAway, takeOrder ===== -/
theorem nx_xor (p q : Nat) : nI p ^^^ nI q = nI (p ^^^ q) := by
  apply Int32.toBitVec_inj.1
  show BitVec.ofNat 32 p ^^^ BitVec.ofNat 32 q = BitVec.ofNat 32 (p ^^^ q)
  apply BitVec.eq_of_getLsbD_eq
  intro i hi
  simp [hi]
theorem m_fmPos {sc : Int32 × (Int32 → Int32)} {f : zF} {a : zA} {j : zJ} {d p n : Nat} (hn : 0 < n) (hn2 : n < 2 ^ 31) (hp : p < 2 ^ 31) : cf sc (d + 1) 181 [.int (nI p), .int (nI n)] f a j = some (some (.int (nI (p % n))), f, a, j) := by
  rw [en181]
  have h0 : nI n ≠ 0 := nI_ne0 hn hn2
  have h1 : 0 ≤ nI p ^^^ nI n := by
    rw [nx_xor]
    exact nI_pos' (Nat.xor_lt_two_pow hp hn2)
  simp only [q181_0, q181_1, q181_2, q181_3, q181_4, q181_5, q181_6, q181_7, q181_10, q181_11, q181_14, q181_15, q181_16, q181_17, q181_18, q181_19, h0, h1, zCall_some, Option.toList, List.cons_append, List.nil_append, zb_0, zb_1, zem, z01, z11, nI_add, ↓reduceIte, not_true_eq_false, not_false_eq_true, n0T, n1F, n11T, true_or, or_true, false_or, pk_rem hp hn hn2, ne_eq]
theorem m_fmNeg {sc : Int32 × (Int32 → Int32)} {f : zF} {a : zA} {j : zJ} {d k w n : Nat} (hn : 0 < n) (hn2 : n < 2 ^ 30) (hk : k < w) (hw : w < 2 ^ 30) : cf sc (d + 1) 181 [.int (nI k - nI w), .int (nI n)] f a j = some (some (.int (nI (if (w - k) % n = 0 then 0 else n - (w - k) % n))), f, a, j) := by
  rw [en181]
  have h0 : nI n ≠ 0 := nI_ne0 hn (by omega)
  have ht : (nI k - nI w).toInt = (k : Int) - w := pk_sub_toInt (by omega) hw
  have hnt : (nI n).toInt = (n : Int) := nI_toInt (by omega)
  have h1 : ¬ 0 ≤ (nI k - nI w) ^^^ nI n := by
    intro q
    have q1 : (0 : Int) ≤ ((nI k - nI w) ^^^ nI n).toInt := by
      have := Int32.le_iff_toInt_le.mp q
      simpa using this
    have m1 : (nI k - nI w).toBitVec.msb = true := by
      rw [BitVec.msb_eq_toInt]
      have : (nI k - nI w).toBitVec.toInt = (k : Int) - w := ht
      rw [this]
      simp; omega
    have m2 : (nI n).toBitVec.msb = false := by
      rw [BitVec.msb_eq_toInt]
      have : (nI n).toBitVec.toInt = (n : Int) := hnt
      rw [this]
      simp
    have m3 : ((nI k - nI w) ^^^ nI n).toBitVec.msb = true := by
      show ((nI k - nI w).toBitVec ^^^ (nI n).toBitVec).msb = true
      rw [BitVec.msb_xor, m1, m2]
      rfl
    rw [BitVec.msb_eq_toInt] at m3
    have m4 : ((nI k - nI w) ^^^ nI n).toBitVec.toInt = ((nI k - nI w) ^^^ nI n).toInt := rfl
    rw [m4] at m3
    simp at m3
    omega
  have hr : ((nI k - nI w) - (nI k - nI w) / nI n * nI n).toInt = -(((w - k) % n : Nat) : Int) := by
    rw [rem_toInt, ht, hnt]
    rw [show (k : Int) - w = -((w - k : Nat) : Int) by omega, Int.neg_tmod]
    congr 1
  have hm : (w - k) % n < n := Nat.mod_lt _ hn
  by_cases hz : (w - k) % n = 0
  · have hr0 : (nI k - nI w) - (nI k - nI w) / nI n * nI n = 0 := by
      apply Int32.toInt_inj.mp
      rw [hr, hz]; rfl
    simp only [q181_0, q181_1, q181_2, q181_3, q181_4, q181_5, q181_6, q181_7, q181_10, q181_11, q181_14, q181_15, q181_16, q181_17, q181_18, q181_19, h0, h1, hr0, hz, zCall_some, Option.toList, List.cons_append, List.nil_append, zb_0, zb_1, zem, z01, z11, nI_add, ↓reduceIte, not_true_eq_false, not_false_eq_true, n0T, n1F, n11T, true_or, or_true, false_or, ne_eq, n0]
  · have hr0 : ¬ (nI k - nI w) - (nI k - nI w) / nI n * nI n = 0 := by
      intro q
      rw [q] at hr
      simp at hr
      omega
    have hr1 : (nI k - nI w) - (nI k - nI w) / nI n * nI n + nI n = nI (n - (w - k) % n) := by
      have e1 : (nI k - nI w) - (nI k - nI w) / nI n * nI n = nI 0 - nI ((w - k) % n) := by
        apply Int32.toInt_inj.mp
        rw [hr, pk_sub_toInt (by omega) (by omega)]
        omega
      apply Int32.toInt_inj.mp
      rw [e1, nI_toInt (by omega)]
      rw [show nI 0 - nI ((w - k) % n) + nI n = nI n - nI ((w - k) % n) by rw [n0, Int32.zero_sub, Int32.add_comm, ← Int32.sub_eq_add_neg]]
      rw [pk_sub_toInt (by omega) (by omega)]
      omega
    simp only [q181_0, q181_1, q181_2, q181_3, q181_4, q181_5, q181_6, q181_7, q181_10, q181_11, q181_14, q181_15, q181_16, q181_17, q181_18, q181_19, h0, h1, hr0, hz, hr1, zCall_some, Option.toList, List.cons_append, List.nil_append, zb_0, zb_1, zem, z01, z11, nI_add, ↓reduceIte, not_true_eq_false, not_false_eq_true, n0T, n1F, n11T, true_or, or_true, false_or, ne_eq]
theorem zpos_back {n k w : Nat} (hn : 0 < n) (hkn : k < n) (hk : k < w) : (if (w - k) % n = 0 then 0 else n - (w - k) % n) = (k + n - w % n) % n := by
  have hw := Nat.mod_lt w hn
  have e1 := Nat.div_add_mod w n
  generalize w % n = m at hw e1 ⊢
  rcases Nat.lt_or_ge m k with q | q
  · have ht : 1 ≤ w / n := by
      rcases Nat.eq_zero_or_pos (w / n) with z | z
      · rw [z] at e1; omega
      · exact z
    obtain ⟨t, ht⟩ : ∃ t, w / n = t + 1 := ⟨w / n - 1, by omega⟩
    rw [ht, Nat.mul_add, Nat.mul_one] at e1
    have e2 : w - k = n * t + (n + m - k) := by omega
    have e3 : (w - k) % n = n + m - k := by
      rw [e2, Nat.mul_add_mod]
      exact Nat.mod_eq_of_lt (by omega)
    have e4 : (k + n - m) % n = k - m := by
      rw [show k + n - m = (k - m) + n by omega, Nat.add_mod_right]
      exact Nat.mod_eq_of_lt (by omega)
    rw [e3, e4, if_neg (by omega)]
    omega
  · have e2 : w - k = n * (w / n) + (m - k) := by omega
    have e3 : (w - k) % n = m - k := by
      rw [e2, Nat.mul_add_mod]
      exact Nat.mod_eq_of_lt (by omega)
    rw [e3]
    split
    · rw [show k + n - m = n by omega, Nat.mod_self]
    · have e4 : (k + n - m) % n = k + n - m := Nat.mod_eq_of_lt (by omega)
      rw [e4]
      omega
theorem m_comesAt {sc : Int32 × (Int32 → Int32)} {f : zF} {a : zA} {j : zJ} {d k w : Nat} {σ : Nat → Nat} (hV : VR σ) (hk : k < σ 0) (hw : w ≤ 1010) (hr : σ 2 ≤ 3) (hf : f 54 9 = nI (σ 0)) : cf sc (d + 2) 34 [.ref 54, .int (nI k), .int (nI w), .int (nI (σ 2))] f a j = some (some (.int (nI (zpos σ w k))), f, a, j) := by
  have hn := hV.1
  rw [en34]
  have c0 : 0 < nI (σ 0) := nI_lt (a := 0) (by omega) (by omega)
  have h2 : nI 2 ≠ 0 := by decide
  have e2 : nI w - nI w / nI 2 * nI 2 = nI (w % 2) := pk_rem (by omega) (by omega) (by omega)
  have e3 : (nI (w % 2) = 0) = (w % 2 = 0) := by
    have := nI_eq (a := w % 2) (b := 0) (by omega) (by omega)
    exact propext this
  rcases (show σ 2 = 0 ∨ σ 2 = 1 ∨ σ 2 = 2 ∨ σ 2 = 3 by omega) with h | h | h | h
  · have z1 : ¬ nI 0 = nI 1 := by decide
    have z2 : ¬ nI 0 = nI 2 := by decide
    have z3 : ¬ nI 0 = nI 3 := by decide
    simp only [q34_0, q34_1, q34_4, q34_7, q34_8, q34_9, q34_10, q34_36, q34_37, q34_38, q34_39, q34_40, q34_43, q34_46, q34_47, q34_48, q34_49, q34_50, q34_53, q34_54, q34_57, q34_58, q34_61, q34_62, q34_63, q34_64, q34_65, q34_66, q34_67, q34_68, q34_69, q34_70, q34_73, q34_76, q34_77, q34_78, hf, c0, h, z1, z2, z3, zpos, zCall_some, Option.toList, List.cons_append, List.nil_append, zb_0, zb_1, zem, z01, z11, nI_add, ↓reduceIte, not_true_eq_false, not_false_eq_true, n0T, n1F, n11T, true_or, or_true, false_or]
    simp
  · simp only [q34_0, q34_1, q34_4, q34_7, q34_8, q34_9, q34_10, q34_36, q34_37, q34_38, q34_39, q34_40, q34_43, q34_46, q34_47, q34_48, q34_49, q34_50, q34_53, q34_54, q34_57, q34_58, q34_61, q34_62, q34_63, q34_64, q34_65, q34_66, q34_67, q34_68, q34_69, q34_70, q34_73, q34_76, q34_77, q34_78, hf, c0, h, zpos, zCall_some, Option.toList, List.cons_append, List.nil_append, zb_0, zb_1, zem, z01, z11, nI_add, ↓reduceIte, not_true_eq_false, not_false_eq_true, n0T, n1F, n11T, true_or, or_true, false_or, m_fmPos (p := k + w) (n := σ 0) (by omega) (by omega) (by omega)]
  · have z1 : ¬ nI 2 = nI 1 := by decide
    by_cases he : w % 2 = 0
    · simp only [q34_0, q34_1, q34_4, q34_7, q34_8, q34_9, q34_10, q34_36, q34_37, q34_38, q34_39, q34_40, q34_43, q34_46, q34_47, q34_48, q34_49, q34_50, q34_53, q34_54, q34_57, q34_58, q34_61, q34_62, q34_63, q34_64, q34_65, q34_66, q34_67, q34_68, q34_69, q34_70, q34_73, q34_76, q34_77, q34_78, hf, c0, h, z1, h2, e2, n0T, he, zpos, zCall_some, Option.toList, List.cons_append, List.nil_append, zb_0, zb_1, zem, z01, z11, nI_add, ↓reduceIte, not_true_eq_false, not_false_eq_true, n0T, n1F, n11T, true_or, or_true, false_or, ne_eq]
      simp
    · have s1 : nI (σ 0) - nI 1 = nI (σ 0 - 1) := pk_sub (by omega)
      have s2 : nI (σ 0 - 1) - nI k = nI (σ 0 - 1 - k) := pk_sub (by omega)
      simp only [q34_0, q34_1, q34_4, q34_7, q34_8, q34_9, q34_10, q34_36, q34_37, q34_38, q34_39, q34_40, q34_43, q34_46, q34_47, q34_48, q34_49, q34_50, q34_53, q34_54, q34_57, q34_58, q34_61, q34_62, q34_63, q34_64, q34_65, q34_66, q34_67, q34_68, q34_69, q34_70, q34_73, q34_76, q34_77, q34_78, hf, c0, h, z1, h2, e2, e3, he, s1, s2, zpos, zCall_some, Option.toList, List.cons_append, List.nil_append, zb_0, zb_1, zem, z01, z11, nI_add, ↓reduceIte, not_true_eq_false, not_false_eq_true, n0T, n1F, n11T, true_or, or_true, false_or, ne_eq]
      simp
  · have z1 : ¬ nI 3 = nI 1 := by decide
    have z2 : ¬ nI 3 = nI 2 := by decide
    rcases Nat.lt_or_ge k w with q | q
    · simp only [q34_0, q34_1, q34_4, q34_7, q34_8, q34_9, q34_10, q34_36, q34_37, q34_38, q34_39, q34_40, q34_43, q34_46, q34_47, q34_48, q34_49, q34_50, q34_53, q34_54, q34_57, q34_58, q34_61, q34_62, q34_63, q34_64, q34_65, q34_66, q34_67, q34_68, q34_69, q34_70, q34_73, q34_76, q34_77, q34_78, hf, c0, h, z1, z2, zCall_some, Option.toList, List.cons_append, List.nil_append, zb_0, zb_1, zem, z01, z11, nI_add, ↓reduceIte, not_true_eq_false, not_false_eq_true, n0T, n1F, n11T, true_or, or_true, false_or, m_fmNeg (k := k) (w := w) (n := σ 0) (by omega) (by omega) q (by omega)]
      rw [zpos_back (by omega) hk q]
      simp [zpos, h]
    · have s1 : nI k - nI w = nI (k - w) := pk_sub q
      simp only [q34_0, q34_1, q34_4, q34_7, q34_8, q34_9, q34_10, q34_36, q34_37, q34_38, q34_39, q34_40, q34_43, q34_46, q34_47, q34_48, q34_49, q34_50, q34_53, q34_54, q34_57, q34_58, q34_61, q34_62, q34_63, q34_64, q34_65, q34_66, q34_67, q34_68, q34_69, q34_70, q34_73, q34_76, q34_77, q34_78, hf, c0, h, z1, z2, zCall_some, Option.toList, List.cons_append, List.nil_append, zb_0, zb_1, zem, z01, z11, nI_add, ↓reduceIte, not_true_eq_false, not_false_eq_true, n0T, n1F, n11T, true_or, or_true, false_or, s1, m_fmPos (p := k - w) (n := σ 0) (by omega) (by omega) (by omega)]
      have e9 : (k + σ 0 - w % σ 0) % σ 0 = (k - w) % σ 0 := by
        rw [Nat.mod_eq_of_lt (show w < σ 0 by omega), show k + σ 0 - w = (k - w) + σ 0 by omega, Nat.add_mod_right]
      simp [zpos, h, e9]
theorem m_isAway {sc : Int32 × (Int32 → Int32)} {f : zF} {a : zA} {j : zJ} {d c g : Nat} {σ : Nat → Nat} (hc : isC c) (hV : VR σ) (hR : CR0 c σ f a) (hg : g < σ 0) : cf sc (d + 2) 5 [.ref c, .int (nI g)] f a j = some (some (.int (zb (σ (32 + g) = 1))), f, a, j) := by
  have hn := hV.1
  rw [en5]
  simp only [q5_0, q5_1, q5_4, q5_5, q5_8, hc, m_isBit (show g < 32 by omega), hR.2.1 g hg, decide_eq_true_eq, zCall_some, Option.toList, List.cons_append, List.nil_append, zb_0, zb_1, zem, z01, z11, nI_add, ↓reduceIte, not_true_eq_false, not_false_eq_true, n0T, n1F, n11T, true_or, or_true, false_or]
theorem tko_1 {sc : Int32 × (Int32 → Int32)} {F : zCF} {f : zF} {j : zJ} {c : Nat} {v2 v3 v5 : Value} : ∀ (m i : Nat) (a : zA), i + m = 8 → (∀ q, q < i → a 61 (nI q) = -5) →
    ∃ a' : zA, rn sc F 32 8 [.ref 54, .ref c, v2, v3, .int (nI i), v5] [] f a j = rn sc F 32 30 [.ref 54, .ref c, v2, v3, .int (nI 8), v5] [] f a' j ∧ (∀ q, q < 8 → a' 61 (nI q) = -5) ∧ ∀ k, k ≠ 61 → a' k = a k := by
  intro m
  induction m with
  | zero =>
    intro i a hi hL
    have hi : i = 8 := by omega
    subst hi
    have c1 : nI 8 ≤ nI 8 := nI_le (Nat.le_refl _) (by omega)
    refine ⟨a, ?_, hL, fun _ _ => rfl⟩
    simp only [q32_8, q32_10, q32_12, c1, zCall_some, Option.toList, List.cons_append, List.nil_append, zb_0, zb_1, zem, z01, z11, nI_add, ↓reduceIte, not_true_eq_false, not_false_eq_true, n0T, n1F, n11T, true_or, or_true, false_or]
  | succ m ih =>
    intro i a hi hL
    have c1 : ¬ nI 8 ≤ nI i := nI_ge (by omega) (by omega)
    have ix : zIx 21 61 (nI i) := ix61 (by omega)
    obtain ⟨a', h1, h2, h3⟩ := ih (i + 1) (zuA a 61 (nI i) (-5)) (by omega) (fun q hq => by
      by_cases e : q = i
      · rw [e]; exact zuA_eq
      · rw [zuA_ni (nI_ne (by omega) (by omega) e)]; exact hL q (by omega))
    refine ⟨a', ?_, h2, fun k hk => by rw [h3 k hk, zuA_nk hk]⟩
    rw [← h1, q32_8]
    simp only [q32_0, q32_1, q32_2, q32_5, q32_6, q32_10, q32_12, q32_15, q32_16, q32_19, q32_21, q32_23, q32_24, q32_27, q32_30, q32_31, q32_33, q32_35, q32_36, q32_39, q32_42, q32_43, q32_45, q32_46, q32_47, q32_50, q32_52, q32_54, q32_55, q32_57, q32_60, q32_63, q32_64, q32_65, q32_66, q32_69, q32_71, q32_72, q32_75, q32_78, q32_81, c1, ix, zCall_some, Option.toList, List.cons_append, List.nil_append, zb_0, zb_1, zem, z01, z11, nI_add, ↓reduceIte, not_true_eq_false, not_false_eq_true, n0T, n1F, n11T, true_or, or_true, false_or]
/-- behind takeOrder: TURNS, and who has which -/
def TkO (σ : Nat → Nat) (w k : Nat) (f : zF) (a : zA) : Prop := f 54 10 = nI (oS σ w k).length ∧ zLst a 56 (oS σ w k) ∧ ∀ g, g < 8 → a 61 (nI g) = plS σ w k g
theorem m_takeTurn {sc : Int32 × (Int32 → Int32)} {f : zF} {a : zA} {j : zJ} {d c w k : Nat} {σ : Nat → Nat} (hc : isC c) (hV : VR σ) (hk : k < σ 0) (hR : CR0 c σ f a) (hT : TkO σ w k f a) :
    ∃ (f' : zF) (a' : zA), cf sc (d + 3) 33 [.ref 54, .ref c, .int (nI (lnA σ (zpos σ w k)))] f a j = some (none, f', a', j) ∧ TkO σ w (k + 1) f' a' ∧ (∀ k, k ≠ 56 → k ≠ 61 → a' k = a k) ∧ (∀ k, k ≠ 54 → f' k = f k) ∧ ∀ i, i ≠ 10 → f' 54 i = f 54 i := by
  have hn := hV.1
  have hcl := isC_lt hc
  have hp : zpos σ w k < σ 0 := zpos_lt hk
  have hg : lnA σ (zpos σ w k) < σ 0 := lnA_lt hV hp
  have hg8 : lnA σ (zpos σ w k) < 8 := by omega
  have hlen := oS_len (σ := σ) (w := w) k
  obtain ⟨hT1, hT2, hT3⟩ := hT
  rw [en33]
  by_cases haw : σ (32 + lnA σ (zpos σ w k)) = 1
  · have e1 : oS σ w (k + 1) = oS σ w k := by
      show (if _ then _ else _) = _
      rw [if_pos haw]
    have e2 : plS σ w (k + 1) = plS σ w k := by
      show (if _ then _ else _) = _
      rw [if_pos haw]
    refine ⟨f, a, ?_, ⟨by rw [e1]; exact hT1, by rw [e1]; exact hT2, fun g hg => by rw [e2]; exact hT3 g hg⟩, fun _ _ _ => rfl, fun _ _ => rfl, fun _ _ => rfl⟩
    simp only [q33_0, q33_1, q33_4, q33_7, q33_8, q33_9, q33_12, q33_15, q33_16, q33_19, q33_21, q33_24, q33_25, q33_26, q33_29, q33_30, q33_33, q33_34, q33_35, q33_36, q33_39, q33_40, q33_41, q33_44, q33_45, q33_46, q33_47, q33_50, q33_51, q33_52, q33_55, hc, m_canB hg8, m_isAway hc hV hR hg, haw, zCall_some, Option.toList, List.cons_append, List.nil_append, zb_0, zb_1, zem, z01, z11, nI_add, ↓reduceIte, not_true_eq_false, not_false_eq_true, n0T, n1F, n11T, true_or, or_true, false_or]
  · have e1 : oS σ w (k + 1) = oS σ w k ++ [lnA σ (zpos σ w k)] := by
      show (if _ then _ else _) = _
      rw [if_neg haw]
    have e2 : plS σ w (k + 1) = fun g => if g = lnA σ (zpos σ w k) then nI (oS σ w k).length else plS σ w k g := by
      show (if _ then _ else _) = _
      rw [if_neg haw]
    have e3 : (oS σ w (k + 1)).length = (oS σ w k).length + 1 := by rw [e1, List.length_append]; rfl
    have c2 : nI (oS σ w k).length < nI 8 := nI_lt (by omega) (by omega)
    have ix6 : zIx 21 56 (nI (oS σ w k).length) := ix56 (by omega)
    have ix61' : zIx 21 61 (nI (lnA σ (zpos σ w k))) := ix61 (by omega)
    refine ⟨zuF f 54 10 (nI ((oS σ w k).length + 1)), zuA (zuA a 56 (nI (oS σ w k).length) (nI (lnA σ (zpos σ w k)))) 61 (nI (lnA σ (zpos σ w k))) (nI (oS σ w k).length), ?_, ⟨by rw [zuF_eq, e3], by
        rw [e1]
        exact zLst_of (zLst_push (by omega) hT2 _) (zuA_nk (by omega)), fun g hg8 => by
        rw [e2]
        dsimp only
        by_cases e : g = lnA σ (zpos σ w k)
        · rw [if_pos e, e]; exact zuA_eq
        · rw [if_neg e, zuA_ni (nI_ne (by omega) (by omega) e), zuA_nk (by omega)]; exact hT3 g hg8⟩, fun q q1 q2 => by rw [zuA_nk q2, zuA_nk q1], fun q hq => zuF_nk hq, fun i hi => zuF_ni hi⟩
    simp only [q33_0, q33_1, q33_4, q33_7, q33_8, q33_9, q33_12, q33_15, q33_16, q33_19, q33_21, q33_24, q33_25, q33_26, q33_29, q33_30, q33_33, q33_34, q33_35, q33_36, q33_39, q33_40, q33_41, q33_44, q33_45, q33_46, q33_47, q33_50, q33_51, q33_52, q33_55, hc, hT1, m_canB hg8, m_isAway hc hV hR hg, haw, c2, ix6, ix61', zCall_some, Option.toList, List.cons_append, List.nil_append, zb_0, zb_1, zem, z01, z11, nI_add, ↓reduceIte, not_true_eq_false, not_false_eq_true, n0T, n1F, n11T, true_or, or_true, false_or]
theorem tko_2 {sc : Int32 × (Int32 → Int32)} {d : Nat} {j : zJ} {c w : Nat} {σ : Nat → Nat} (hc : isC c) (hV : VR σ) (hw : w ≤ 1010) (hr : σ 2 ≤ 3) : ∀ (m k : Nat) (f : zF) (a : zA) (v5 : Value), k + m = σ 0 → f 54 9 = nI (σ 0) → CR0 c σ f a → zLst a 55 (lnO σ 4) → TkO σ w k f a →
    ∃ (f' : zF) (a' : zA), rn sc (cf sc (d + 3)) 32 33 [.ref 54, .ref c, .int (nI w), .int (nI (σ 2)), .int (nI k), v5] [] f a j = some (none, f', a', j) ∧ TkO σ w (σ 0) f' a' ∧ (∀ k, k ≠ 56 → k ≠ 61 → a' k = a k) ∧ (∀ k, k ≠ 54 → f' k = f k) ∧ ∀ i, i ≠ 10 → f' 54 i = f 54 i := by
  have hn := hV.1
  have hcl := isC_lt hc
  intro m
  induction m with
  | zero =>
    intro k f a v5 hk hf hR hL hT
    have hk : k = σ 0 := by omega
    subst hk
    have c1 : nI (σ 0) ≤ nI (σ 0) := nI_le (Nat.le_refl _) (by omega)
    refine ⟨f, a, ?_, hT, fun _ _ _ => rfl, fun _ _ => rfl, fun _ _ => rfl⟩
    simp only [q32_33, q32_35, q32_36, q32_39, q32_81, hf, c1, zCall_some, Option.toList, List.cons_append, List.nil_append, zb_0, zb_1, zem, z01, z11, nI_add, ↓reduceIte, not_true_eq_false, not_false_eq_true, n0T, n1F, n11T, true_or, or_true, false_or]
  | succ m ih =>
    intro k f a v5 hk hf hR hL hT
    have hkn : k < σ 0 := by omega
    have hp : zpos σ w k < σ 0 := zpos_lt hkn
    have c1 : ¬ nI (σ 0) ≤ nI k := nI_ge hkn (by omega)
    have c2 : (¬ nI (zpos σ w k) < nI 0 ∧ ¬ nI 7 < nI (zpos σ w k)) = True := eq_true ⟨nI_nlt (by omega) (by omega), nI_nlt (by omega) (by omega)⟩
    have ix5 : zIx 21 55 (nI (zpos σ w k)) := ix55 (by omega)
    have e5 : a 55 (nI (zpos σ w k)) = nI (lnA σ (zpos σ w k)) := hL _ (by rw [ln_len hV]; exact hp)
    obtain ⟨f1, a1, t1, t2, t3, t4, t5⟩ := m_takeTurn (sc := sc) (d := d) (f := f) (a := a) (j := j) hc hV hkn hR hT
    obtain ⟨f', a', h1, h2, h3, h4, h5⟩ := ih (k + 1) f1 a1 (.int (nI (zpos σ w k))) (by omega) (by rw [t5 9 (by omega)]; exact hf) (hR.of hc (fun q hq => t4 q (by omega)) (fun q hq => t3 q (by omega) (by omega))) (zLst_of hL (t3 55 (by omega) (by omega))) t2
    refine ⟨f', a', ?_, h2, fun q q1 q2 => by rw [h3 q q1 q2, t3 q q1 q2], fun q hq => by rw [h4 q hq, t4 q hq], fun i hi => by rw [h5 i hi, t5 i hi]⟩
    rw [← h1, q32_33]
    simp only [q32_0, q32_1, q32_2, q32_5, q32_6, q32_8, q32_10, q32_12, q32_15, q32_16, q32_19, q32_21, q32_23, q32_24, q32_27, q32_30, q32_31, q32_35, q32_36, q32_39, q32_42, q32_43, q32_45, q32_46, q32_47, q32_50, q32_52, q32_54, q32_55, q32_57, q32_60, q32_63, q32_64, q32_65, q32_66, q32_69, q32_71, q32_72, q32_75, q32_78, q32_81, hf, c1, ix5, e5, m_comesAt hV hkn hw hr hf, m_isWithin, c2, zb_t, t1, zCall_some, Option.toList, List.cons_append, List.nil_append, zb_0, zb_1, zem, z01, z11, nI_add, ↓reduceIte, not_true_eq_false, not_false_eq_true, n0T, n1F, n11T, true_or, or_true, false_or]
theorem m_takeOrder {sc : Int32 × (Int32 → Int32)} {f : zF} {a : zA} {j : zJ} {d c w : Nat} {σ : Nat → Nat} (hc : isC c) (hV : VR σ) (hw : w ≤ 1010) (hr : σ 2 ≤ 3) (hf : f 54 9 = nI (σ 0)) (hR : CR0 c σ f a) (hL : zLst a 55 (lnO σ 4)) :
    ∃ (f' : zF) (a' : zA), cf sc (d + 4) 32 [.ref 54, .ref c, .int (nI w), .int (nI (σ 2))] f a j = some (none, f', a', j) ∧ TkO σ w (σ 0) f' a' ∧ (∀ k, k ≠ 56 → k ≠ 61 → a' k = a k) ∧ (∀ k, k ≠ 54 → f' k = f k) ∧ ∀ i, i ≠ 10 → f' 54 i = f 54 i := by
  rw [en32]
  have hcl := isC_lt hc
  obtain ⟨a1, h1, h2, h3⟩ := tko_1 (sc := sc) (F := cf sc (d + 3)) (f := zuF f 54 10 (nI 0)) (j := j) (c := c) (v2 := .int (nI w)) (v3 := .int (nI (σ 2))) (v5 := .null) 8 0 a (by omega) (fun q hq => by omega)
  obtain ⟨f', a', g1, g2, g3, g4, g5⟩ := tko_2 (sc := sc) (d := d) (j := j) hc hV hw hr (σ 0) 0 (zuF f 54 10 (nI 0)) a1 .null (by omega) (by rw [zuF_ni (by omega)]; exact hf) (hR.of hc (fun q hq => zuF_nk (by omega)) (fun q hq => h3 q (by omega))) (zLst_of hL (h3 55 (by omega))) ⟨zuF_eq, zLst_nil, fun g hg => h2 g hg⟩
  refine ⟨f', a', ?_, g2, fun q q1 q2 => by rw [g3 q q1 q2, h3 q q2], fun q hq => by rw [g4 q hq, zuF_nk hq], fun i hi => by rw [g5 i hi, zuF_ni hi]⟩
  simp only [q32_0, q32_1, q32_2, q32_5, q32_6]
  refine Eq.trans h1 ?_
  simp only [q32_30, q32_31]
  exact g1
