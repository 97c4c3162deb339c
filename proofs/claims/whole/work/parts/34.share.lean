/-! ===== the class: shareOut ===== -/
theorem so_1 {sc : Int32 × (Int32 → Int32)} {d : Nat} {f : zF} {j : zJ} {c : Nat} {σ : Nat → Nat} {S : Nat → Bool} {x : Int32} {v2 v6 : Value} (hc : isC c) (hV : VR σ) (hS : ∀ g, g < 8 → bt x g = S g) (hS0 : ∀ g, σ 0 ≤ g → S g = false) : ∀ (m i : Nat) (a : zA), i + m = 8 → CR0 c σ f a → (∀ q, q < i → a 58 (nI q) = nI 0 ∧ a 60 (nI q) = -1) →
    ∃ a' : zA, rn sc (cf sc (d + 1)) 38 6 [.ref 54, .ref c, v2, .int x, .int (nI (shA σ S i)), .int (nI i), v6] [] f a j = rn sc (cf sc (d + 1)) 38 56 [.ref 54, .ref c, v2, .int x, .int (nI (shA σ S 8)), .int (nI 8), v6] [] f a' j ∧ (∀ q, q < 8 → a' 58 (nI q) = nI 0 ∧ a' 60 (nI q) = -1) ∧ ∀ k, k ≠ 58 → k ≠ 60 → a' k = a k := by
  have hn := hV.1
  have hcl := isC_lt hc
  intro m
  induction m with
  | zero =>
    intro i a hi hR hA
    have e : i = 8 := by omega
    subst e
    have c1 : nI 8 ≤ nI 8 := nI_le (Nat.le_refl _) (by omega)
    refine ⟨a, ?_, hA, fun _ _ _ => rfl⟩
    simp only [q38_6, q38_8, q38_10, c1, zCall_some, Option.toList, List.cons_append, List.nil_append, zb_0, zb_1, zem, z01, z11, nI_add, ↓reduceIte, not_true_eq_false, not_false_eq_true, n0T, n1F, n11T, true_or, or_true, false_or]
  | succ m ih =>
    intro i a hi hR hA
    have c1 : ¬ nI 8 ≤ nI i := nI_ge (by omega) (by omega)
    have ix1 : zIx 21 58 (nI i) := ix58 (by omega)
    have ix2 : zIx 21 60 (nI i) := ix60 (by omega)
    have hR' : CR0 c σ f (zuA (zuA a 58 (nI i) (nI 0)) 60 (nI i) (-1)) := hR.of hc (fun _ _ => rfl) (fun q hq => by rw [zuA_nk (by omega), zuA_nk (by omega)])
    obtain ⟨a', h1, h2, h3⟩ := ih (i + 1) (zuA (zuA a 58 (nI i) (nI 0)) 60 (nI i) (-1)) (by omega) hR' (fun q hq => by
      by_cases e : q = i
      · rw [e]
        exact ⟨by rw [zuA_nk (by omega)]; exact zuA_eq, zuA_eq⟩
      · rw [zuA_ni (nI_ne (by omega) (by omega) e), zuA_ni (nI_ne (by omega) (by omega) e), zuA_ni (nI_ne (by omega) (by omega) e), zuA_ni (nI_ne (by omega) (by omega) e)]
        exact hA q (by omega))
    refine ⟨a', ?_, h2, fun k k1 k2 => by rw [h3 k k1 k2, zuA_nk k2, zuA_nk k1]⟩
    rw [← h1, q38_6, shA_s]
    by_cases hs : S i = true
    · have hin : i < σ 0 := by
        rcases Nat.lt_or_ge i (σ 0) with q | q
        · exact q
        · rw [hS0 i q] at hs; cases hs
      have ix4 : zIx 21 (c + 4) (nI i) := ixC4 hc (by omega)
      simp only [q38_0, q38_1, q38_3, q38_4, q38_8, q38_10, q38_13, q38_14, q38_17, q38_19, q38_20, q38_21, q38_22, q38_25, q38_27, q38_28, q38_29, q38_30, q38_32, q38_35, q38_38, q38_40, q38_41, q38_44, q38_46, q38_47, q38_48, q38_50, q38_53, q38_58, q38_61, q38_62, q38_63, q38_65, q38_66, q38_68, q38_70, q38_72, q38_75, q38_76, q38_78, q38_81, q38_84, q38_85, q38_88, q38_90, q38_91, q38_92, q38_95, q38_97, q38_98, q38_99, q38_101, q38_102, q38_103, q38_104, q38_107, q38_109, q38_110, q38_111, q38_114, q38_116, q38_117, q38_118, q38_120, q38_121, q38_122, q38_124, q38_125, q38_128, q38_130, q38_131, q38_132, q38_134, q38_137, q38_140, q38_141, q38_143, q38_146, c1, ix1, ix2, ix4, hc, m_isBit (show i < 32 by omega), hS i (by omega), hs, (hR'.2.2.2.1 i hin).2, zCall_some, Option.toList, List.cons_append, List.nil_append, zb_0, zb_1, zem, z01, z11, nI_add, ↓reduceIte, not_true_eq_false, not_false_eq_true, n0T, n1F, n11T, true_or, or_true, false_or]
    · simp only [q38_0, q38_1, q38_3, q38_4, q38_8, q38_10, q38_13, q38_14, q38_17, q38_19, q38_20, q38_21, q38_22, q38_25, q38_27, q38_28, q38_29, q38_30, q38_32, q38_35, q38_38, q38_40, q38_41, q38_44, q38_46, q38_47, q38_48, q38_50, q38_53, q38_58, q38_61, q38_62, q38_63, q38_65, q38_66, q38_68, q38_70, q38_72, q38_75, q38_76, q38_78, q38_81, q38_84, q38_85, q38_88, q38_90, q38_91, q38_92, q38_95, q38_97, q38_98, q38_99, q38_101, q38_102, q38_103, q38_104, q38_107, q38_109, q38_110, q38_111, q38_114, q38_116, q38_117, q38_118, q38_120, q38_121, q38_122, q38_124, q38_125, q38_128, q38_130, q38_131, q38_132, q38_134, q38_137, q38_140, q38_141, q38_143, q38_146, c1, ix1, ix2, m_isBit (show i < 32 by omega), hS i (by omega), hs, zCall_some, Option.toList, List.cons_append, List.nil_append, zb_0, zb_1, zem, z01, z11, nI_add, ↓reduceIte, not_true_eq_false, not_false_eq_true, n0T, n1F, n11T, true_or, or_true, false_or, Nat.add_zero]
      simp only [Bool.false_eq_true, ↓reduceIte, not_false_eq_true, Nat.add_zero]
theorem so_2 {sc : Int32 × (Int32 → Int32)} {d : Nat} {f : zF} {j : zJ} {c w all : Nat} {σ : Nat → Nat} {S : Nat → Bool} {x : Int32} (hc : isC c) (hV : VR σ) (hw : w ≤ 2 ^ 24) (hS : ∀ g, g < 8 → bt x g = S g) (hS0 : ∀ g, σ 0 ≤ g → S g = false) (ha : shA σ S (σ 0) = all) (ha0 : 0 < all) : ∀ (m i : Nat) (a : zA), i + m = 8 → CR0 c σ f a → (∀ q, q < 8 → a 58 (nI q) = nI (if q < i then shB σ w S all q else 0) ∧ a 60 (nI q) = if q < i then shR σ w S all q else -1) →
    ∃ a' : zA, rn sc (cf sc (d + 1)) 38 68 [.ref 54, .ref c, .int (nI w), .int x, .int (nI all), .int (nI (w - shT σ w S all i)), .int (nI i)] [] f a j = rn sc (cf sc (d + 1)) 38 140 [.ref 54, .ref c, .int (nI w), .int x, .int (nI all), .int (nI (w - shT σ w S all 8)), .int (nI 8)] [] f a' j ∧ (∀ q, q < 8 → a' 58 (nI q) = nI (shB σ w S all q) ∧ a' 60 (nI q) = shR σ w S all q) ∧ ∀ k, k ≠ 58 → k ≠ 60 → a' k = a k := by
  have hn := hV.1
  have hcl := isC_lt hc
  have hall : all ≤ 72 := by
    have := shA_le hV (S := S) (σ 0) (Nat.le_refl _)
    omega
  intro m
  induction m with
  | zero =>
    intro i a hi hR hA
    have e : i = 8 := by omega
    subst e
    have c1 : nI 8 ≤ nI 8 := nI_le (Nat.le_refl _) (by omega)
    refine ⟨a, ?_, fun q hq => ?_, fun _ _ _ => rfl⟩
    · simp only [q38_68, q38_70, q38_72, c1, zCall_some, Option.toList, List.cons_append, List.nil_append, zb_0, zb_1, zem, z01, z11, nI_add, ↓reduceIte, not_true_eq_false, not_false_eq_true, n0T, n1F, n11T, true_or, or_true, false_or]
    · have := hA q hq
      rwa [if_pos hq, if_pos hq] at this
  | succ m ih =>
    intro i a hi hR hA
    have c1 : ¬ nI 8 ≤ nI i := nI_ge (by omega) (by omega)
    have ix1 : zIx 21 58 (nI i) := ix58 (by omega)
    have ix2 : zIx 21 60 (nI i) := ix60 (by omega)
    by_cases hs : S i = true
    · have hin : i < σ 0 := by
        rcases Nat.lt_or_ge i (σ 0) with q | q
        · exact q
        · rw [hS0 i q] at hs; cases hs
      have ix4 : zIx 21 (c + 4) (nI i) := ixC4 hc (by omega)
      have h9 := (hV.2.2.1 i hin).2.1.2
      have hm : w * σ (24 + i) < 2 ^ 31 := by
        have : w * σ (24 + i) ≤ w * 9 := Nat.mul_le_mul_left w h9
        omega
      have e1 : nI w * nI (σ (24 + i)) = nI (w * σ (24 + i)) := pk_mul _ _
      have e2 : nI (w * σ (24 + i)) / nI all = nI (w * σ (24 + i) / all) := pk_div hm ha0 (by omega)
      have e3 : nI (w * σ (24 + i)) - nI (w * σ (24 + i) / all) * nI all = nI (w * σ (24 + i) % all) := by
        rw [← e2]; exact pk_rem hm ha0 (by omega)
      have z0 : nI all ≠ 0 := nI_ne0 ha0 (by omega)
      have hB : shB σ w S all i = w * σ (24 + i) / all := by unfold shB; rw [if_pos hs]
      have hRr : shR σ w S all i = nI (w * σ (24 + i) % all) := by unfold shR; rw [if_pos hs]
      have hT : shT σ w S all (i + 1) ≤ w := by
        rw [← ha] at ha0 ⊢
        exact shT_le ha0 (by omega)
      rw [shT_s, hB] at hT
      have e4 : nI (w - shT σ w S all i) - nI (w * σ (24 + i) / all) = nI (w - (shT σ w S all i + w * σ (24 + i) / all)) := by
        rw [pk_sub (by omega)]
        congr 1
        omega
      have hR1 : CR0 c σ f (zuA a 58 (nI i) (nI (w * σ (24 + i) / all))) := hR.of hc (fun _ _ => rfl) (fun q hq => by rw [zuA_nk (by omega)])
      have hR2 : CR0 c σ f (zuA (zuA a 58 (nI i) (nI (w * σ (24 + i) / all))) 60 (nI i) (nI (w * σ (24 + i) % all))) := hR1.of hc (fun _ _ => rfl) (fun q hq => by rw [zuA_nk (by omega)])
      have er : zuA (zuA a 58 (nI i) (nI (w * σ (24 + i) / all))) 60 (nI i) (nI (w * σ (24 + i) % all)) 58 (nI i) = nI (w * σ (24 + i) / all) := by rw [zuA_nk (by omega), zuA_eq]
      obtain ⟨a', h1, h2, h3⟩ := ih (i + 1) (zuA (zuA a 58 (nI i) (nI (w * σ (24 + i) / all))) 60 (nI i) (nI (w * σ (24 + i) % all))) (by omega) hR2 (fun q hq => by
        by_cases e : q = i
        · rw [e, if_pos (by omega), if_pos (by omega), hB, hRr]
          exact ⟨er, zuA_eq⟩
        · rw [zuA_ni (nI_ne (by omega) (by omega) e), zuA_ni (nI_ne (by omega) (by omega) e), zuA_ni (nI_ne (by omega) (by omega) e), zuA_ni (nI_ne (by omega) (by omega) e)]
          have := hA q hq
          by_cases h8 : q < i
          · rw [if_pos h8, if_pos h8] at this
            rw [if_pos (by omega), if_pos (by omega)]
            exact this
          · rw [if_neg h8, if_neg h8] at this
            rw [if_neg (by omega), if_neg (by omega)]
            exact this)
      refine ⟨a', ?_, h2, fun k k1 k2 => by rw [h3 k k1 k2, zuA_nk k2, zuA_nk k1]⟩
      rw [← h1, q38_68, shT_s, hB]
      simp only [q38_0, q38_1, q38_3, q38_4, q38_6, q38_8, q38_10, q38_13, q38_14, q38_17, q38_19, q38_20, q38_21, q38_22, q38_25, q38_27, q38_28, q38_29, q38_30, q38_32, q38_35, q38_38, q38_40, q38_41, q38_44, q38_46, q38_47, q38_48, q38_50, q38_53, q38_56, q38_58, q38_61, q38_62, q38_63, q38_65, q38_66, q38_70, q38_72, q38_75, q38_76, q38_78, q38_81, q38_84, q38_85, q38_88, q38_90, q38_91, q38_92, q38_95, q38_97, q38_98, q38_99, q38_101, q38_102, q38_103, q38_104, q38_107, q38_109, q38_110, q38_111, q38_114, q38_116, q38_117, q38_118, q38_120, q38_121, q38_122, q38_124, q38_125, q38_128, q38_130, q38_131, q38_132, q38_134, q38_137, q38_141, q38_143, q38_146, c1, ix1, ix2, ix4, hc, m_isBit (show i < 32 by omega), hS i (by omega), hs, (hR.2.2.2.1 i hin).2, (hR1.2.2.2.1 i hin).2, z0, e1, e2, e3, er, e4, ne_eq, zCall_some, Option.toList, List.cons_append, List.nil_append, zb_0, zb_1, zem, z01, z11, nI_add, ↓reduceIte, not_true_eq_false, not_false_eq_true, n0T, n1F, n11T, true_or, or_true, false_or]
    · have hB : shB σ w S all i = 0 := by unfold shB; rw [if_neg hs]
      have hRr : shR σ w S all i = -1 := by unfold shR; rw [if_neg hs]
      obtain ⟨a', h1, h2, h3⟩ := ih (i + 1) a (by omega) hR (fun q hq => by
        have := hA q hq
        by_cases h8 : q < i
        · rw [if_pos h8, if_pos h8] at this
          rw [if_pos (by omega), if_pos (by omega)]
          exact this
        · rw [if_neg h8, if_neg h8] at this
          by_cases e : q = i
          · rw [if_pos (by omega), if_pos (by omega), e, hB, hRr]
            rw [e] at this
            exact this
          · rw [if_neg (by omega), if_neg (by omega)]
            exact this)
      refine ⟨a', ?_, h2, h3⟩
      have eT : shT σ w S all (i + 1) = shT σ w S all i := by rw [shT_s, hB]; rfl
      rw [← h1, q38_68, eT]
      simp only [q38_0, q38_1, q38_3, q38_4, q38_6, q38_8, q38_10, q38_13, q38_14, q38_17, q38_19, q38_20, q38_21, q38_22, q38_25, q38_27, q38_28, q38_29, q38_30, q38_32, q38_35, q38_38, q38_40, q38_41, q38_44, q38_46, q38_47, q38_48, q38_50, q38_53, q38_56, q38_58, q38_61, q38_62, q38_63, q38_65, q38_66, q38_70, q38_72, q38_75, q38_76, q38_78, q38_81, q38_84, q38_85, q38_88, q38_90, q38_91, q38_92, q38_95, q38_97, q38_98, q38_99, q38_101, q38_102, q38_103, q38_104, q38_107, q38_109, q38_110, q38_111, q38_114, q38_116, q38_117, q38_118, q38_120, q38_121, q38_122, q38_124, q38_125, q38_128, q38_130, q38_131, q38_132, q38_134, q38_137, q38_141, q38_143, q38_146, c1, m_isBit (show i < 32 by omega), hS i (by omega), hs, zCall_some, Option.toList, List.cons_append, List.nil_append, zb_0, zb_1, zem, z01, z11, nI_add, ↓reduceIte, not_true_eq_false, not_false_eq_true, n0T, n1F, n11T, true_or, or_true, false_or]
      simp only [Bool.false_eq_true, ↓reduceIte, not_false_eq_true]
theorem m_shareOut {sc : Int32 × (Int32 → Int32)} {f : zF} {a : zA} {j : zJ} {d c w : Nat} {σ : Nat → Nat} {S : Nat → Bool} {x : Int32} (hc : isC c) (hV : VR σ) (hw : w ≤ 2 ^ 24) (hS : ∀ g, g < 8 → bt x g = S g) (hS0 : ∀ g, σ 0 ≤ g → S g = false) (hR : CR0 c σ f a) :
    ∃ a' : zA, cf sc (d + 2) 38 [.ref 54, .ref c, .int (nI w), .int x] f a j = some (none, f, a', j) ∧ (∀ g, g < 8 → a' 58 (nI g) = nI (shr σ w S g)) ∧ ∀ k, k ≠ 58 → k ≠ 60 → a' k = a k := by
  have hn := hV.1
  have hcl := isC_lt hc
  have e8 := shA_8 hn hS0
  have hall := shA_le hV (S := S) (σ 0) (Nat.le_refl _)
  obtain ⟨a1, h1, h2, h3⟩ := so_1 (sc := sc) (d := d) (f := f) (j := j) (v2 := .int (nI w)) (v6 := .null) hc hV hS hS0 8 0 a (by omega) hR (fun q hq => by omega)
  rw [en38]
  by_cases hz : shA σ S (σ 0) = 0
  · have c1 : ¬ 0 < nI (shA σ S 8) := by rw [e8, hz]; decide
    refine ⟨a1, ?_, fun g hg => ?_, h3⟩
    · simp only [q38_0, q38_1, q38_3, q38_4]
      refine Eq.trans (show _ = _ from h1) ?_
      simp only [q38_56, q38_58, q38_61, c1, zCall_some, Option.toList, List.cons_append, List.nil_append, zb_0, zb_1, zem, z01, z11, nI_add, ↓reduceIte, not_true_eq_false, not_false_eq_true, n0T, n1F, n11T, true_or, or_true, false_or]
    · rw [(h2 g hg).1]
      unfold shr
      rw [if_pos hz]
  · have ha0 : 0 < shA σ S (σ 0) := by omega
    have c1 : 0 < nI (shA σ S (σ 0)) := nI_lt (a := 0) ha0 (by omega)
    have hR1 : CR0 c σ f a1 := hR.of hc (fun _ _ => rfl) (fun q hq => h3 q (by omega) (by omega))
    obtain ⟨a2, g1, g2, g3⟩ := so_2 (sc := sc) (d := d) (f := f) (j := j) (w := w) hc hV hw hS hS0 rfl ha0 8 0 a1 (by omega) hR1 (fun q hq => by rw [if_neg (by omega), if_neg (by omega)]; exact h2 q hq)
    have hov : w - shT σ w S (shA σ S (σ 0)) 8 = w - shT σ w S (shA σ S (σ 0)) (σ 0) := by rw [shT_8 hn hS0]
    have hov8 := sh_over (m := w) ha0
    obtain ⟨a3, k1, k2, k3⟩ := m_giveRests (sc := sc) (f := f) (j := j) (d := d) (n := σ 0) (ov := w - shT σ w S (shA σ S (σ 0)) (σ 0)) (R := shR σ w S (shA σ S (σ 0))) (P := shB σ w S (shA σ S (σ 0))) (a := a2) hn (fun g hg => by unfold shR; rw [hS0 g hg]; simp) (shR_ge ha0 (by omega)) (by omega) (fun g hg => (g2 g hg).2) (fun g hg => (g2 g hg).1)
    refine ⟨a3, ?_, fun g hg => ?_, fun k q1 q2 => by rw [k3 k q1 q2, g3 k q1 q2, h3 k q1 q2]⟩
    · simp only [q38_0, q38_1, q38_3, q38_4]
      refine Eq.trans (show _ = _ from h1) ?_
      simp only [q38_56, q38_58, q38_62, q38_63, q38_65, q38_66, c1, e8, zCall_some, Option.toList, List.cons_append, List.nil_append, zb_0, zb_1, zem, z01, z11, nI_add, ↓reduceIte, not_true_eq_false, not_false_eq_true, n0T, n1F, n11T, true_or, or_true, false_or]
      refine Eq.trans (show _ = _ from g1) ?_
      simp only [q38_140, q38_141, q38_143, q38_146, hov, k1, zCall_some, Option.toList, List.cons_append, List.nil_append, zb_0, zb_1, zem, z01, z11, nI_add, ↓reduceIte, not_true_eq_false, not_false_eq_true, n0T, n1F, n11T, true_or, or_true, false_or]
    · rw [k2 g hg]
      unfold shr
      rw [if_neg hz]
