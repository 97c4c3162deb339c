/-! ===== the reference: shares, present, givesOn, haveAll ===== -/
theorem bit_z {x : Int32} : (x &&& nI 1 = 0) ↔ ¬ bt x 0 = true := by
  have h1 : bt (nI 1) 0 = true := by decide
  have h2 : ∀ i, i < 32 → i ≠ 0 → bt (nI 1) i = false := by decide
  constructor
  · intro h q
    have h3 := congrArg (fun z => bt z 0) h
    simp only [b_and] at h3
    rw [h1, q, b_0] at h3
    simp at h3
  · intro h
    apply b_ext
    intro i hi
    rw [b_and, b_0]
    by_cases h0 : i = 0
    · subst h0
      simp [h]
    · rw [h2 i hi h0]; simp
theorem bit_q0 {x : Int32} {q : Nat} (hq : q < 32) : ((x >>> (nI q &&& 31)) &&& nI 1 = 0) ↔ ¬ bt x q = true := by
  rw [bit_z, b_sshr q hq x (by omega)]
  simp [hq]
theorem sr_1 {sc : Int32 × (Int32 → Int32)} {F : zCF} {f : zF} {j : zJ} {σ : Nat → Nat} {S : Nat → Bool} {x : Int32} {v1 v5 v6 : Value} (hV : VR σ) (hS : ∀ g, g < 8 → bt x g = S g) : ∀ (m i : Nat) (a : zA), i + m = σ 0 → MR σ a → (∀ q, q < i → a 96 (nI q) = nI 0 ∧ a 97 (nI q) = -1) →
    ∃ a' : zA, rn sc F 118 5 [.ref 85, v1, .int x, .int (nI (shA σ S i)), .int (nI i), v5, v6] [] f a j = rn sc F 118 61 [.ref 85, v1, .int x, .int (nI (shA σ S (σ 0))), .int (nI (σ 0)), v5, v6] [] f a' j ∧ (∀ q, q < σ 0 → a' 96 (nI q) = nI 0 ∧ a' 97 (nI q) = -1) ∧ ∀ k, k ≠ 96 → k ≠ 97 → a' k = a k := by
  have hn := hV.1
  have ix0 : zIx 21 86 (nI 0) := ix86 (by omega)
  intro m
  induction m with
  | zero =>
    intro i a hi hR hA
    have e : i = σ 0 := by omega
    subst e
    have c1 : nI (σ 0) ≤ nI (σ 0) := nI_le (Nat.le_refl _) (by omega)
    have e0 := hR 0 (by omega)
    refine ⟨a, ?_, hA, fun _ _ _ => rfl⟩
    simp only [q118_5, q118_7, q118_8, q118_11, q118_12, q118_13, ix0, e0, c1, zCall_some, Option.toList, List.cons_append, List.nil_append, zb_0, zb_1, zem, z01, z11, nI_add, ↓reduceIte, not_true_eq_false, not_false_eq_true, n0T, n1F, n11T, true_or, or_true, false_or]
  | succ m ih =>
    intro i a hi hR hA
    have hin : i < σ 0 := by omega
    have c1 : ¬ nI (σ 0) ≤ nI i := nI_ge hin (by omega)
    have e0 := hR 0 (by omega)
    have ix1 : zIx 21 96 (nI i) := ix96 (by omega)
    have ix2 : zIx 21 97 (nI i) := ix97 (by omega)
    have ix24 : zIx 21 86 (nI (24 + i)) := ix86 (by omega)
    have hR' : MR σ (zuA (zuA a 96 (nI i) (nI 0)) 97 (nI i) (-1)) := hR.of (by rw [zuA_nk (by omega), zuA_nk (by omega)])
    have e24 := hR' (24 + i) (by omega)
    obtain ⟨a', h1, h2, h3⟩ := ih (i + 1) (zuA (zuA a 96 (nI i) (nI 0)) 97 (nI i) (-1)) (by omega) hR' (fun q hq => by
      by_cases e : q = i
      · rw [e]
        exact ⟨by rw [zuA_nk (by omega)]; exact zuA_eq, zuA_eq⟩
      · rw [zuA_ni (nI_ne (by omega) (by omega) e), zuA_ni (nI_ne (by omega) (by omega) e), zuA_ni (nI_ne (by omega) (by omega) e), zuA_ni (nI_ne (by omega) (by omega) e)]
        exact hA q (by omega))
    refine ⟨a', ?_, h2, fun k k1 k2 => by rw [h3 k k1 k2, zuA_nk k2, zuA_nk k1]⟩
    have hb : (x >>> (nI i &&& 31) &&& nI 1 = nI 1) = (S i = true) := propext ((bit_q (by omega)).trans (by rw [hS i (by omega)]))
    rw [← h1, q118_5, shA_s]
    by_cases hs : S i = true
    · rw [if_pos hs]
      simp only [q118_0, q118_1, q118_2, q118_3, q118_7, q118_8, q118_11, q118_12, q118_13, q118_16, q118_17, q118_20, q118_22, q118_23, q118_24, q118_25, q118_28, q118_30, q118_31, q118_32, q118_33, q118_35, q118_36, q118_37, q118_38, q118_39, q118_42, q118_43, q118_44, q118_47, q118_49, q118_51, q118_52, q118_53, q118_54, q118_55, q118_58, q118_62, q118_65, q118_66, q118_67, q118_69, q118_70, q118_72, q118_74, q118_75, q118_78, q118_79, q118_80, q118_83, q118_84, q118_86, q118_87, q118_88, q118_89, q118_92, q118_95, q118_96, q118_99, q118_101, q118_102, q118_103, q118_106, q118_108, q118_110, q118_111, q118_112, q118_113, q118_114, q118_115, q118_116, q118_117, q118_120, q118_122, q118_123, q118_124, q118_127, q118_129, q118_131, q118_132, q118_133, q118_134, q118_135, q118_136, q118_137, q118_139, q118_140, q118_143, q118_145, q118_146, q118_147, q118_149, q118_152, q118_155, q118_157, q118_160, q118_161, q118_163, q118_164, q118_166, q118_168, q118_169, q118_172, q118_173, q118_174, q118_177, q118_178, q118_181, q118_183, q118_184, q118_185, q118_188, q118_190, q118_191, q118_194, q118_196, q118_198, q118_201, q118_204, q118_205, q118_208, q118_210, q118_211, q118_212, q118_213, q118_214, q118_215, q118_216, q118_219, q118_221, q118_222, q118_223, q118_226, q118_229, ix0, e0, c1, ix1, ix2, hb, eq_true hs, ix24, e24, zCall_some, Option.toList, List.cons_append, List.nil_append, zb_0, zb_1, zem, z01, z11, nI_add, ↓reduceIte, not_true_eq_false, not_false_eq_true, n0T, n1F, n11T, true_or, or_true, false_or]
    · rw [if_neg hs, Nat.add_zero]
      simp only [q118_0, q118_1, q118_2, q118_3, q118_7, q118_8, q118_11, q118_12, q118_13, q118_16, q118_17, q118_20, q118_22, q118_23, q118_24, q118_25, q118_28, q118_30, q118_31, q118_32, q118_33, q118_35, q118_36, q118_37, q118_38, q118_39, q118_42, q118_43, q118_44, q118_47, q118_49, q118_51, q118_52, q118_53, q118_54, q118_55, q118_58, q118_62, q118_65, q118_66, q118_67, q118_69, q118_70, q118_72, q118_74, q118_75, q118_78, q118_79, q118_80, q118_83, q118_84, q118_86, q118_87, q118_88, q118_89, q118_92, q118_95, q118_96, q118_99, q118_101, q118_102, q118_103, q118_106, q118_108, q118_110, q118_111, q118_112, q118_113, q118_114, q118_115, q118_116, q118_117, q118_120, q118_122, q118_123, q118_124, q118_127, q118_129, q118_131, q118_132, q118_133, q118_134, q118_135, q118_136, q118_137, q118_139, q118_140, q118_143, q118_145, q118_146, q118_147, q118_149, q118_152, q118_155, q118_157, q118_160, q118_161, q118_163, q118_164, q118_166, q118_168, q118_169, q118_172, q118_173, q118_174, q118_177, q118_178, q118_181, q118_183, q118_184, q118_185, q118_188, q118_190, q118_191, q118_194, q118_196, q118_198, q118_201, q118_204, q118_205, q118_208, q118_210, q118_211, q118_212, q118_213, q118_214, q118_215, q118_216, q118_219, q118_221, q118_222, q118_223, q118_226, q118_229, ix0, e0, c1, ix1, ix2, hb, eq_false hs, zCall_some, Option.toList, List.cons_append, List.nil_append, zb_0, zb_1, zem, z01, z11, nI_add, ↓reduceIte, not_true_eq_false, not_false_eq_true, n0T, n1F, n11T, true_or, or_true, false_or]
theorem sr_2 {sc : Int32 × (Int32 → Int32)} {F : zCF} {f : zF} {j : zJ} {w all : Nat} {σ : Nat → Nat} {S : Nat → Bool} {x : Int32} {v6 : Value} (hV : VR σ) (hw : w ≤ 2 ^ 24) (hS : ∀ g, g < 8 → bt x g = S g) (ha : shA σ S (σ 0) = all) (ha0 : 0 < all) : ∀ (m i : Nat) (a : zA), i + m = σ 0 → MR σ a → (∀ q, q < σ 0 → a 96 (nI q) = nI (if q < i then shB σ w S all q else 0) ∧ a 97 (nI q) = if q < i then shR σ w S all q else -1) →
    ∃ a' : zA, rn sc F 118 72 [.ref 85, .int (nI w), .int x, .int (nI all), .int (nI (w - shT σ w S all i)), .int (nI i), v6] [] f a j = rn sc F 118 155 [.ref 85, .int (nI w), .int x, .int (nI all), .int (nI (w - shT σ w S all (σ 0))), .int (nI (σ 0)), v6] [] f a' j ∧ (∀ q, q < σ 0 → a' 96 (nI q) = nI (shB σ w S all q) ∧ a' 97 (nI q) = shR σ w S all q) ∧ ∀ k, k ≠ 96 → k ≠ 97 → a' k = a k := by
  have hn := hV.1
  have ix0 : zIx 21 86 (nI 0) := ix86 (by omega)
  have hall : all ≤ 72 := by
    have := shA_le hV (S := S) (σ 0) (Nat.le_refl _)
    omega
  intro m
  induction m with
  | zero =>
    intro i a hi hR hA
    have e : i = σ 0 := by omega
    subst e
    have e0 := hR 0 (by omega)
    have c1 : nI (σ 0) ≤ nI (σ 0) := nI_le (Nat.le_refl _) (by omega)
    refine ⟨a, ?_, fun q hq => ?_, fun _ _ _ => rfl⟩
    · simp only [q118_72, q118_74, q118_75, q118_78, q118_79, q118_80, ix0, e0, c1, zCall_some, Option.toList, List.cons_append, List.nil_append, zb_0, zb_1, zem, z01, z11, nI_add, ↓reduceIte, not_true_eq_false, not_false_eq_true, n0T, n1F, n11T, true_or, or_true, false_or]
    · have := hA q hq
      rwa [if_pos hq, if_pos hq] at this
  | succ m ih =>
    intro i a hi hR hA
    have hin : i < σ 0 := by omega
    have e0 := hR 0 (by omega)
    have c1 : ¬ nI (σ 0) ≤ nI i := nI_ge hin (by omega)
    have ix1 : zIx 21 96 (nI i) := ix96 (by omega)
    have ix2 : zIx 21 97 (nI i) := ix97 (by omega)
    have ix24 : zIx 21 86 (nI (24 + i)) := ix86 (by omega)
    have hb : (x >>> (nI i &&& 31) &&& nI 1 = 0) = ¬ (S i = true) := propext ((bit_q0 (by omega)).trans (by rw [hS i (by omega)]))
    by_cases hs : S i = true
    · have h9 := (hV.2.2.1 i hin).2.1.2
      have hm : w * σ (24 + i) < 2 ^ 31 := by
        have : w * σ (24 + i) ≤ w * 9 := Nat.mul_le_mul_left w h9
        omega
      have e1 : nI w * nI (σ (24 + i)) = nI (w * σ (24 + i)) := pk_mul _ _
      have e2 : nI (w * σ (24 + i)) / nI all = nI (w * σ (24 + i) / all) := pk_div hm ha0 (by omega)
      have e3 : nI (w * σ (24 + i)) - nI (w * σ (24 + i) / all) * nI all = nI (w * σ (24 + i) % all) := by
        rw [← e2]; exact pk_rem hm ha0 (by omega)
      have z0 : nI all ≠ 0 := nI_ne0 ha0 (by omega)
      have hB : shB σ w S all i = w * σ (24 + i) / all := by unfold shB; rw [if_pos hs]
      have hRr : shR σ w S all i = nI (w * σ (24 + i) % all) := by unfold shR; rw [if_pos hs]
      have hT : shT σ w S all (i + 1) ≤ w := by
        rw [← ha] at ha0 ⊢
        exact shT_le ha0 (by omega)
      rw [shT_s, hB] at hT
      have e4 : nI (w - shT σ w S all i) - nI (w * σ (24 + i) / all) = nI (w - (shT σ w S all i + w * σ (24 + i) / all)) := by
        rw [pk_sub (by omega)]
        congr 1
        omega
      have hR1 : MR σ (zuA a 96 (nI i) (nI (w * σ (24 + i) / all))) := hR.of (by rw [zuA_nk (by omega)])
      have hR2 : MR σ (zuA (zuA a 96 (nI i) (nI (w * σ (24 + i) / all))) 97 (nI i) (nI (w * σ (24 + i) % all))) := hR1.of (by rw [zuA_nk (by omega)])
      have e24 := hR (24 + i) (by omega)
      have e24' := hR1 (24 + i) (by omega)
      have er : zuA (zuA a 96 (nI i) (nI (w * σ (24 + i) / all))) 97 (nI i) (nI (w * σ (24 + i) % all)) 96 (nI i) = nI (w * σ (24 + i) / all) := by rw [zuA_nk (by omega), zuA_eq]
      obtain ⟨a', h1, h2, h3⟩ := ih (i + 1) (zuA (zuA a 96 (nI i) (nI (w * σ (24 + i) / all))) 97 (nI i) (nI (w * σ (24 + i) % all))) (by omega) hR2 (fun q hq => by
        by_cases e : q = i
        · rw [e, if_pos (by omega), if_pos (by omega), hB, hRr]
          exact ⟨er, zuA_eq⟩
        · rw [zuA_ni (nI_ne (by omega) (by omega) e), zuA_ni (nI_ne (by omega) (by omega) e), zuA_ni (nI_ne (by omega) (by omega) e), zuA_ni (nI_ne (by omega) (by omega) e)]
          have := hA q hq
          by_cases h8 : q < i
          · rw [if_pos h8, if_pos h8] at this
            rw [if_pos (by omega), if_pos (by omega)]
            exact this
          · rw [if_neg h8, if_neg h8] at this
            rw [if_neg (by omega), if_neg (by omega)]
            exact this)
      refine ⟨a', ?_, h2, fun k k1 k2 => by rw [h3 k k1 k2, zuA_nk k2, zuA_nk k1]⟩
      rw [← h1, q118_72, shT_s, hB]
      simp only [q118_0, q118_1, q118_2, q118_3, q118_5, q118_7, q118_8, q118_11, q118_12, q118_13, q118_16, q118_17, q118_20, q118_22, q118_23, q118_24, q118_25, q118_28, q118_30, q118_31, q118_32, q118_33, q118_35, q118_36, q118_37, q118_38, q118_39, q118_42, q118_43, q118_44, q118_47, q118_49, q118_51, q118_52, q118_53, q118_54, q118_55, q118_58, q118_61, q118_62, q118_65, q118_66, q118_67, q118_69, q118_70, q118_74, q118_75, q118_78, q118_79, q118_80, q118_83, q118_84, q118_86, q118_87, q118_88, q118_89, q118_92, q118_95, q118_96, q118_99, q118_101, q118_102, q118_103, q118_106, q118_108, q118_110, q118_111, q118_112, q118_113, q118_114, q118_115, q118_116, q118_117, q118_120, q118_122, q118_123, q118_124, q118_127, q118_129, q118_131, q118_132, q118_133, q118_134, q118_135, q118_136, q118_137, q118_139, q118_140, q118_143, q118_145, q118_146, q118_147, q118_149, q118_152, q118_157, q118_160, q118_161, q118_163, q118_164, q118_166, q118_168, q118_169, q118_172, q118_173, q118_174, q118_177, q118_178, q118_181, q118_183, q118_184, q118_185, q118_188, q118_190, q118_191, q118_194, q118_196, q118_198, q118_201, q118_204, q118_205, q118_208, q118_210, q118_211, q118_212, q118_213, q118_214, q118_215, q118_216, q118_219, q118_221, q118_222, q118_223, q118_226, q118_229, ix0, e0, c1, ix1, ix2, ix24, hb, eq_true hs, e24, e24', z0, e1, e2, e3, er, e4, ne_eq, zCall_some, Option.toList, List.cons_append, List.nil_append, zb_0, zb_1, zem, z01, z11, nI_add, ↓reduceIte, not_true_eq_false, not_false_eq_true, n0T, n1F, n11T, true_or, or_true, false_or]
    · have hB : shB σ w S all i = 0 := by unfold shB; rw [if_neg hs]
      have hRr : shR σ w S all i = -1 := by unfold shR; rw [if_neg hs]
      obtain ⟨a', h1, h2, h3⟩ := ih (i + 1) a (by omega) hR (fun q hq => by
        have := hA q hq
        by_cases h8 : q < i
        · rw [if_pos h8, if_pos h8] at this
          rw [if_pos (by omega), if_pos (by omega)]
          exact this
        · rw [if_neg h8, if_neg h8] at this
          by_cases e : q = i
          · rw [if_pos (by omega), if_pos (by omega), e, hB, hRr]
            rw [e] at this
            exact this
          · rw [if_neg (by omega), if_neg (by omega)]
            exact this)
      refine ⟨a', ?_, h2, h3⟩
      have eT : shT σ w S all (i + 1) = shT σ w S all i := by rw [shT_s, hB]; rfl
      rw [← h1, q118_72, eT]
      simp only [q118_0, q118_1, q118_2, q118_3, q118_5, q118_7, q118_8, q118_11, q118_12, q118_13, q118_16, q118_17, q118_20, q118_22, q118_23, q118_24, q118_25, q118_28, q118_30, q118_31, q118_32, q118_33, q118_35, q118_36, q118_37, q118_38, q118_39, q118_42, q118_43, q118_44, q118_47, q118_49, q118_51, q118_52, q118_53, q118_54, q118_55, q118_58, q118_61, q118_62, q118_65, q118_66, q118_67, q118_69, q118_70, q118_74, q118_75, q118_78, q118_79, q118_80, q118_83, q118_84, q118_86, q118_87, q118_88, q118_89, q118_92, q118_95, q118_96, q118_99, q118_101, q118_102, q118_103, q118_106, q118_108, q118_110, q118_111, q118_112, q118_113, q118_114, q118_115, q118_116, q118_117, q118_120, q118_122, q118_123, q118_124, q118_127, q118_129, q118_131, q118_132, q118_133, q118_134, q118_135, q118_136, q118_137, q118_139, q118_140, q118_143, q118_145, q118_146, q118_147, q118_149, q118_152, q118_157, q118_160, q118_161, q118_163, q118_164, q118_166, q118_168, q118_169, q118_172, q118_173, q118_174, q118_177, q118_178, q118_181, q118_183, q118_184, q118_185, q118_188, q118_190, q118_191, q118_194, q118_196, q118_198, q118_201, q118_204, q118_205, q118_208, q118_210, q118_211, q118_212, q118_213, q118_214, q118_215, q118_216, q118_219, q118_221, q118_222, q118_223, q118_226, q118_229, ix0, e0, c1, hb, eq_false hs, zCall_some, Option.toList, List.cons_append, List.nil_append, zb_0, zb_1, zem, z01, z11, nI_add, ↓reduceIte, not_true_eq_false, not_false_eq_true, n0T, n1F, n11T, true_or, or_true, false_or]
theorem sr_in {sc : Int32 × (Int32 → Int32)} {F : zCF} {f : zF} {a : zA} {j : zJ} {R : Nat → Int32} {σ : Nat → Nat} {v1 v2 v3 v4 : Value} (hR : MR σ a) (h8 : σ 0 ≤ 8) (hA : ∀ g, g < σ 0 → a 97 (nI g) = R g) : ∀ (m g : Nat), g + 1 + m = σ 0 →
    rn sc F 118 166 [.ref 85, v1, v2, v3, v4, .int (nI (bsF R g)), .int (nI (g + 1))] [] f a j = rn sc F 118 204 [.ref 85, v1, v2, v3, v4, .int (nI (bsF R (σ 0 - 1))), .int (nI (σ 0))] [] f a j := by
  have ix0 : zIx 21 86 (nI 0) := ix86 (by omega)
  have e0 := hR 0 (by omega)
  intro m
  induction m with
  | zero =>
    intro g hg
    have c1 : nI (σ 0) ≤ nI (g + 1) := nI_le (by omega) (by omega)
    have hs : σ 0 - 1 = g := by omega
    have hs2 : g + 1 = σ 0 := by omega
    rw [hs, hs2]
    rw [hs2] at c1
    simp only [q118_166, q118_168, q118_169, q118_172, q118_173, q118_174, ix0, e0, c1, zCall_some, Option.toList, List.cons_append, List.nil_append, zb_0, zb_1, zem, z01, z11, nI_add, ↓reduceIte, not_true_eq_false, not_false_eq_true, n0T, n1F, n11T, true_or, or_true, false_or]
  | succ m ih =>
    intro g hg
    have hb := bsF_le R g
    have c1 : ¬ nI (σ 0) ≤ nI (g + 1) := nI_ge (by omega) (by omega)
    have ix1 : zIx 21 97 (nI (g + 1)) := ix97 (by omega)
    have ix2 : zIx 21 97 (nI (bsF R g)) := ix97 (by omega)
    have e1 : bsF R (g + 1) = if R (bsF R g) < R (g + 1) then g + 1 else bsF R g := rfl
    rw [← ih (g + 1) (by omega), q118_166, e1]
    by_cases h : R (bsF R g) < R (g + 1)
    · have h9 : ¬ R (g + 1) ≤ R (bsF R g) := Int32.not_le.mpr h
      simp only [q118_0, q118_1, q118_2, q118_3, q118_5, q118_7, q118_8, q118_11, q118_12, q118_13, q118_16, q118_17, q118_20, q118_22, q118_23, q118_24, q118_25, q118_28, q118_30, q118_31, q118_32, q118_33, q118_35, q118_36, q118_37, q118_38, q118_39, q118_42, q118_43, q118_44, q118_47, q118_49, q118_51, q118_52, q118_53, q118_54, q118_55, q118_58, q118_61, q118_62, q118_65, q118_66, q118_67, q118_69, q118_70, q118_72, q118_74, q118_75, q118_78, q118_79, q118_80, q118_83, q118_84, q118_86, q118_87, q118_88, q118_89, q118_92, q118_95, q118_96, q118_99, q118_101, q118_102, q118_103, q118_106, q118_108, q118_110, q118_111, q118_112, q118_113, q118_114, q118_115, q118_116, q118_117, q118_120, q118_122, q118_123, q118_124, q118_127, q118_129, q118_131, q118_132, q118_133, q118_134, q118_135, q118_136, q118_137, q118_139, q118_140, q118_143, q118_145, q118_146, q118_147, q118_149, q118_152, q118_155, q118_157, q118_160, q118_161, q118_163, q118_164, q118_168, q118_169, q118_172, q118_173, q118_174, q118_177, q118_178, q118_181, q118_183, q118_184, q118_185, q118_188, q118_190, q118_191, q118_194, q118_196, q118_198, q118_201, q118_205, q118_208, q118_210, q118_211, q118_212, q118_213, q118_214, q118_215, q118_216, q118_219, q118_221, q118_222, q118_223, q118_226, q118_229, ix0, e0, c1, ix1, ix2, hA (g + 1) (by omega), hA (bsF R g) (by omega), h, h9, zCall_some, Option.toList, List.cons_append, List.nil_append, zb_0, zb_1, zem, z01, z11, nI_add, ↓reduceIte, not_true_eq_false, not_false_eq_true, n0T, n1F, n11T, true_or, or_true, false_or]
    · have h9 : R (g + 1) ≤ R (bsF R g) := Int32.not_lt.mp h
      simp only [q118_0, q118_1, q118_2, q118_3, q118_5, q118_7, q118_8, q118_11, q118_12, q118_13, q118_16, q118_17, q118_20, q118_22, q118_23, q118_24, q118_25, q118_28, q118_30, q118_31, q118_32, q118_33, q118_35, q118_36, q118_37, q118_38, q118_39, q118_42, q118_43, q118_44, q118_47, q118_49, q118_51, q118_52, q118_53, q118_54, q118_55, q118_58, q118_61, q118_62, q118_65, q118_66, q118_67, q118_69, q118_70, q118_72, q118_74, q118_75, q118_78, q118_79, q118_80, q118_83, q118_84, q118_86, q118_87, q118_88, q118_89, q118_92, q118_95, q118_96, q118_99, q118_101, q118_102, q118_103, q118_106, q118_108, q118_110, q118_111, q118_112, q118_113, q118_114, q118_115, q118_116, q118_117, q118_120, q118_122, q118_123, q118_124, q118_127, q118_129, q118_131, q118_132, q118_133, q118_134, q118_135, q118_136, q118_137, q118_139, q118_140, q118_143, q118_145, q118_146, q118_147, q118_149, q118_152, q118_155, q118_157, q118_160, q118_161, q118_163, q118_164, q118_168, q118_169, q118_172, q118_173, q118_174, q118_177, q118_178, q118_181, q118_183, q118_184, q118_185, q118_188, q118_190, q118_191, q118_194, q118_196, q118_198, q118_201, q118_205, q118_208, q118_210, q118_211, q118_212, q118_213, q118_214, q118_215, q118_216, q118_219, q118_221, q118_222, q118_223, q118_226, q118_229, ix0, e0, c1, ix1, ix2, hA (g + 1) (by omega), hA (bsF R g) (by omega), h, h9, zCall_some, Option.toList, List.cons_append, List.nil_append, zb_0, zb_1, zem, z01, z11, nI_add, ↓reduceIte, not_true_eq_false, not_false_eq_true, n0T, n1F, n11T, true_or, or_true, false_or]
theorem sr_out {sc : Int32 × (Int32 → Int32)} {F : zCF} {f : zF} {j : zJ} {R : Nat → Int32} {P : Nat → Nat} {ov : Nat} {σ : Nat → Nat} {v1 v2 v3 : Value} (h8 : σ 0 ≤ 8) (h1 : 0 < σ 0) (ho : ov ≤ 8) : ∀ (m i : Nat) (a : zA) (v5 v6 : Value), i + m = ov → MR σ a → (∀ g, g < σ 0 → a 97 (nI g) = gvR R (σ 0) i g) → (∀ g, g < σ 0 → a 96 (nI g) = nI (gvP P R (σ 0) i g)) →
    ∃ a' : zA, rn sc F 118 155 [.ref 85, v1, v2, v3, .int (nI (ov - i)), v5, v6] [] f a j = some (none, f, a', j) ∧ (∀ g, g < σ 0 → a' 96 (nI g) = nI (gvP P R (σ 0) ov g)) ∧ ∀ k, k ≠ 96 → k ≠ 97 → a' k = a k := by
  intro m
  induction m with
  | zero =>
    intro i a v5 v6 hi hR hA hB
    have e : i = ov := by omega
    subst e
    have c1 : nI (i - i) ≤ 0 := by rw [Nat.sub_self]; decide
    refine ⟨a, ?_, hB, fun _ _ _ => rfl⟩
    simp only [q118_155, q118_157, q118_229, c1, zCall_some, Option.toList, List.cons_append, List.nil_append, zb_0, zb_1, zem, z01, z11, nI_add, ↓reduceIte, not_true_eq_false, not_false_eq_true, n0T, n1F, n11T, true_or, or_true, false_or]
  | succ m ih =>
    intro i a v5 v6 hi hR hA hB
    have c1 : ¬ nI (ov - i) ≤ 0 := by
      have := nI_ge (a := 0) (b := ov - i) (by omega) (by omega)
      exact this
    have hb := bsF_le (gvR R (σ 0) i) (σ 0 - 1)
    have hin := sr_in (sc := sc) (F := F) (f := f) (j := j) (v1 := v1) (v2 := v2) (v3 := v3) (v4 := .int (nI (ov - i))) hR h8 hA (σ 0 - 1) 0 (by omega)
    have ix1 : zIx 21 96 (nI (bsF (gvR R (σ 0) i) (σ 0 - 1))) := ix96 (by omega)
    have ix2 : zIx 21 97 (nI (bsF (gvR R (σ 0) i) (σ 0 - 1))) := ix97 (by omega)
    have em : nI (ov - i) + (-1) = nI (ov - (i + 1)) := by
      rw [show ov - i = (ov - (i + 1)) + 1 by omega]
      exact nI_m1 _
    obtain ⟨a', g1, g2, g3⟩ := ih (i + 1) (zuA (zuA a 96 (nI (bsF (gvR R (σ 0) i) (σ 0 - 1))) (nI (gvP P R (σ 0) i (bsF (gvR R (σ 0) i) (σ 0 - 1)) + 1))) 97 (nI (bsF (gvR R (σ 0) i) (σ 0 - 1))) (-1)) (.int (nI (bsF (gvR R (σ 0) i) (σ 0 - 1)))) (.int (nI (σ 0))) (by omega)
      (hR.of (by rw [zuA_nk (by omega), zuA_nk (by omega)]))
      (fun g hg => by
        rw [gvR_s]
        by_cases e : g = bsF (gvR R (σ 0) i) (σ 0 - 1)
        · rw [if_pos e, ← e]; exact zuA_eq
        · rw [if_neg e, zuA_ni (nI_ne (by omega) (by omega) e), zuA_nk (by omega)]; exact hA g hg)
      (fun g hg => by
        rw [gvP_s, zuA_nk (by omega)]
        by_cases e : g = bsF (gvR R (σ 0) i) (σ 0 - 1)
        · rw [if_pos e, ← e]; exact zuA_eq
        · rw [if_neg e, zuA_ni (nI_ne (by omega) (by omega) e)]; exact hB g hg)
    refine ⟨a', ?_, g2, fun k k1 k2 => by rw [g3 k k1 k2, zuA_nk k2, zuA_nk k1]⟩
    rw [← g1, q118_155]
    simp only [q118_157, q118_160, q118_161, q118_163, q118_164, c1, zCall_some, Option.toList, List.cons_append, List.nil_append, zb_0, zb_1, zem, z01, z11, nI_add, ↓reduceIte, not_true_eq_false, not_false_eq_true, n0T, n1F, n11T, true_or, or_true, false_or]
    refine Eq.trans (show _ = _ from hin) ?_
    simp only [q118_0, q118_1, q118_2, q118_3, q118_5, q118_7, q118_8, q118_11, q118_12, q118_13, q118_16, q118_17, q118_20, q118_22, q118_23, q118_24, q118_25, q118_28, q118_30, q118_31, q118_32, q118_33, q118_35, q118_36, q118_37, q118_38, q118_39, q118_42, q118_43, q118_44, q118_47, q118_49, q118_51, q118_52, q118_53, q118_54, q118_55, q118_58, q118_61, q118_62, q118_65, q118_66, q118_67, q118_69, q118_70, q118_72, q118_74, q118_75, q118_78, q118_79, q118_80, q118_83, q118_84, q118_86, q118_87, q118_88, q118_89, q118_92, q118_95, q118_96, q118_99, q118_101, q118_102, q118_103, q118_106, q118_108, q118_110, q118_111, q118_112, q118_113, q118_114, q118_115, q118_116, q118_117, q118_120, q118_122, q118_123, q118_124, q118_127, q118_129, q118_131, q118_132, q118_133, q118_134, q118_135, q118_136, q118_137, q118_139, q118_140, q118_143, q118_145, q118_146, q118_147, q118_149, q118_152, q118_157, q118_160, q118_161, q118_163, q118_164, q118_168, q118_169, q118_172, q118_173, q118_174, q118_177, q118_178, q118_181, q118_183, q118_184, q118_185, q118_188, q118_190, q118_191, q118_194, q118_196, q118_198, q118_201, q118_204, q118_205, q118_208, q118_210, q118_211, q118_212, q118_213, q118_214, q118_215, q118_216, q118_219, q118_221, q118_222, q118_223, q118_226, q118_229, ix1, ix2, hB (bsF (gvR R (σ 0) i) (σ 0 - 1)) (by omega), em, zCall_some, Option.toList, List.cons_append, List.nil_append, zb_0, zb_1, zem, z01, z11, nI_add, ↓reduceIte, not_true_eq_false, not_false_eq_true, n0T, n1F, n11T, true_or, or_true, false_or]
theorem m_shares {sc : Int32 × (Int32 → Int32)} {f : zF} {a : zA} {j : zJ} {d w : Nat} {σ : Nat → Nat} {S : Nat → Bool} {x : Int32} (hR : MR σ a) (hV : VR σ) (hw : w ≤ 2 ^ 24) (hS : ∀ g, g < 8 → bt x g = S g) :
    ∃ a' : zA, cf sc (d + 1) 118 [.ref 85, .int (nI w), .int x] f a j = some (none, f, a', j) ∧ (∀ g, g < σ 0 → a' 96 (nI g) = nI (shr σ w S g)) ∧ ∀ k, k ≠ 96 → k ≠ 97 → a' k = a k := by
  have hn := hV.1
  have hall := shA_le hV (S := S) (σ 0) (Nat.le_refl _)
  obtain ⟨a1, h1, h2, h3⟩ := sr_1 (sc := sc) (F := cf sc d) (f := f) (j := j) (v1 := .int (nI w)) (v5 := .null) (v6 := .null) hV hS (σ 0) 0 a (by omega) hR (fun q hq => by omega)
  have hR1 : MR σ a1 := hR.of (h3 86 (by omega) (by omega))
  rw [en118]
  by_cases hz : shA σ S (σ 0) = 0
  · have c1 : nI (shA σ S (σ 0)) = 0 := by rw [hz]; rfl
    refine ⟨a1, ?_, fun g hg => ?_, h3⟩
    · simp only [q118_0, q118_1, q118_2, q118_3]
      refine Eq.trans (show _ = _ from h1) ?_
      simp only [q118_61, q118_62, q118_65, c1, zCall_some, Option.toList, List.cons_append, List.nil_append, zb_0, zb_1, zem, z01, z11, nI_add, ↓reduceIte, not_true_eq_false, not_false_eq_true, n0T, n1F, n11T, true_or, or_true, false_or]
    · rw [(h2 g hg).1]
      unfold shr
      rw [if_pos hz]
  · have ha0 : 0 < shA σ S (σ 0) := by omega
    have hn0 : 0 < σ 0 := by
      rcases Nat.eq_zero_or_pos (σ 0) with q | q
      · rw [q] at hz; exact absurd rfl hz
      · exact q
    have c1 : ¬ nI (shA σ S (σ 0)) = 0 := nI_ne0 ha0 (by omega)
    obtain ⟨a2, g1, g2, g3⟩ := sr_2 (sc := sc) (F := cf sc d) (f := f) (j := j) (w := w) (v6 := .null) hV hw hS rfl ha0 (σ 0) 0 a1 (by omega) hR1 (fun q hq => by rw [if_neg (by omega), if_neg (by omega)]; exact h2 q hq)
    have hR2 : MR σ a2 := hR1.of (g3 86 (by omega) (by omega))
    have hov8 := sh_over (m := w) ha0
    obtain ⟨a3, k1, k2, k3⟩ := sr_out (sc := sc) (F := cf sc d) (f := f) (j := j) (ov := w - shT σ w S (shA σ S (σ 0)) (σ 0)) (R := shR σ w S (shA σ S (σ 0))) (P := shB σ w S (shA σ S (σ 0))) (v1 := .int (nI w)) (v2 := .int x) (v3 := .int (nI (shA σ S (σ 0)))) hn hn0 (by omega) (w - shT σ w S (shA σ S (σ 0)) (σ 0)) 0 a2 (.int (nI (σ 0))) .null (by omega) hR2 (fun g hg => (g2 g hg).2) (fun g hg => (g2 g hg).1)
    refine ⟨a3, ?_, fun g hg => ?_, fun k q1 q2 => by rw [k3 k q1 q2, g3 k q1 q2, h3 k q1 q2]⟩
    · simp only [q118_0, q118_1, q118_2, q118_3]
      refine Eq.trans (show _ = _ from h1) ?_
      simp only [q118_61, q118_62, q118_66, q118_67, q118_69, q118_70, c1, zCall_some, Option.toList, List.cons_append, List.nil_append, zb_0, zb_1, zem, z01, z11, nI_add, ↓reduceIte, not_true_eq_false, not_false_eq_true, n0T, n1F, n11T, true_or, or_true, false_or]
      refine Eq.trans (show _ = _ from g1) ?_
      exact k1
    · rw [k2 g hg]
      unfold shr
      rw [if_neg hz]
theorem m_allFields {sc : Int32 × (Int32 → Int32)} {f : zF} {a : zA} {j : zJ} {d : Nat} {σ : Nat → Nat} (hR : MR σ a) : cf sc (d + 1) 119 [.ref 85] f a j = some (some (.int ((nI 1 <<< (nI (σ 0) &&& 31)) - nI 1)), f, a, j) := by
  have ix0 : zIx 21 86 (nI 0) := ix86 (by omega)
  have e0 := hR 0 (by omega)
  rw [en119]
  simp only [q119_0, q119_1, q119_2, q119_5, q119_6, q119_7, q119_8, q119_9, q119_10, ix0, e0, zCall_some, Option.toList, List.cons_append, List.nil_append, zb_0, zb_1, zem, z01, z11, nI_add, ↓reduceIte, not_true_eq_false, not_false_eq_true, n0T, n1F, n11T, true_or, or_true, false_or]
theorem btS_s (P : Nat → Bool) (g : Nat) : btS P (g + 1) = btS P g ||| (if P g = true then nI 1 <<< (nI g &&& 31) else nI 0) := rfl
theorem m_present {sc : Int32 × (Int32 → Int32)} {f : zF} {a : zA} {j : zJ} {d : Nat} {σ : Nat → Nat} {v : Int32} {P : Nat → Bool} (hR : MR σ a) (hV : VR σ) (hP : ∀ g, g < σ 0 → P g = (decide (σ (32 + g) ≠ 1) && decide (v = -1 ∨ nI (σ (16 + g)) = v))) : cf sc (d + 2) 120 [.ref 85, .int v] f a j = some (some (.int (btS P (σ 0))), f, a, j) := by
  have hn := hV.1
  have ix0 : zIx 21 86 (nI 0) := ix86 (by omega)
  have e0 := hR 0 (by omega)
  have key := zLoop (n := σ 0) (g := fun i => rn sc (cf sc (d + 1)) 120 4 [.ref 85, .int v, .int (btS P i), .int (nI i)] [] f a j) (by
    intro i hi
    have c1 : ¬ nI (σ 0) ≤ nI i := nI_ge hi (by omega)
    have hA := m_isAwayR (sc := sc) (d := d) (f := f) (j := j) hR (show i < 8 by omega) (hV.2.2.1 i hi).2.2
    have ix16 : zIx 21 86 (nI (16 + i)) := ix86 (by omega)
    have e16 := hR (16 + i) (by omega)
    rw [q120_4, btS_s, hP i hi]
    by_cases w1 : σ (32 + i) = 1
    · have hp : ¬ (decide (σ (32 + i) ≠ 1) && decide (v = -1 ∨ nI (σ (16 + i)) = v)) = true := by simp [w1]
      rw [if_neg hp, or_z]
      simp only [q120_0, q120_1, q120_2, q120_3, q120_5, q120_6, q120_9, q120_10, q120_11, q120_14, q120_15, q120_16, q120_19, q120_22, q120_23, q120_24, q120_27, q120_28, q120_31, q120_33, q120_34, q120_35, q120_36, q120_37, q120_40, q120_41, q120_42, q120_43, q120_44, q120_45, q120_46, q120_49, q120_52, q120_53, ix0, e0, c1, hA, eq_true w1, zCall_some, Option.toList, List.cons_append, List.nil_append, zb_0, zb_1, zem, z01, z11, nI_add, ↓reduceIte, not_true_eq_false, not_false_eq_true, n0T, n1F, n11T, true_or, or_true, false_or]
    · by_cases w2 : v = -1
      · have hp : (decide (σ (32 + i) ≠ 1) && decide (v = -1 ∨ nI (σ (16 + i)) = v)) = true := by simp [w1, w2]
        rw [if_pos hp]
        simp only [q120_0, q120_1, q120_2, q120_3, q120_5, q120_6, q120_9, q120_10, q120_11, q120_14, q120_15, q120_16, q120_19, q120_22, q120_23, q120_24, q120_27, q120_28, q120_31, q120_33, q120_34, q120_35, q120_36, q120_37, q120_40, q120_41, q120_42, q120_43, q120_44, q120_45, q120_46, q120_49, q120_52, q120_53, ix0, e0, c1, hA, eq_false w1, eq_true w2, zCall_some, Option.toList, List.cons_append, List.nil_append, zb_0, zb_1, zem, z01, z11, nI_add, ↓reduceIte, not_true_eq_false, not_false_eq_true, n0T, n1F, n11T, true_or, or_true, false_or]
      · by_cases w3 : nI (σ (16 + i)) = v
        · have hp : (decide (σ (32 + i) ≠ 1) && decide (v = -1 ∨ nI (σ (16 + i)) = v)) = true := by simp [w1, w3]
          rw [if_pos hp]
          simp only [q120_0, q120_1, q120_2, q120_3, q120_5, q120_6, q120_9, q120_10, q120_11, q120_14, q120_15, q120_16, q120_19, q120_22, q120_23, q120_24, q120_27, q120_28, q120_31, q120_33, q120_34, q120_35, q120_36, q120_37, q120_40, q120_41, q120_42, q120_43, q120_44, q120_45, q120_46, q120_49, q120_52, q120_53, ix0, e0, c1, hA, eq_false w1, eq_false w2, ix16, e16, eq_true w3, zCall_some, Option.toList, List.cons_append, List.nil_append, zb_0, zb_1, zem, z01, z11, nI_add, ↓reduceIte, not_true_eq_false, not_false_eq_true, n0T, n1F, n11T, true_or, or_true, false_or]
        · have hp : ¬ (decide (σ (32 + i) ≠ 1) && decide (v = -1 ∨ nI (σ (16 + i)) = v)) = true := by simp [w2, w3]
          rw [if_neg hp, or_z]
          simp only [q120_0, q120_1, q120_2, q120_3, q120_5, q120_6, q120_9, q120_10, q120_11, q120_14, q120_15, q120_16, q120_19, q120_22, q120_23, q120_24, q120_27, q120_28, q120_31, q120_33, q120_34, q120_35, q120_36, q120_37, q120_40, q120_41, q120_42, q120_43, q120_44, q120_45, q120_46, q120_49, q120_52, q120_53, ix0, e0, c1, hA, eq_false w1, eq_false w2, ix16, e16, eq_false w3, zCall_some, Option.toList, List.cons_append, List.nil_append, zb_0, zb_1, zem, z01, z11, nI_add, ↓reduceIte, not_true_eq_false, not_false_eq_true, n0T, n1F, n11T, true_or, or_true, false_or])
  rw [en120, q120_0, q120_1, q120_2, q120_3]
  refine Eq.trans (show _ = _ from key) ?_
  have c1 : nI (σ 0) ≤ nI (σ 0) := nI_le (Nat.le_refl _) (by omega)
  simp only [q120_4, q120_5, q120_6, q120_9, q120_10, q120_11, q120_52, q120_53, ix0, e0, c1, zCall_some, Option.toList, List.cons_append, List.nil_append, zb_0, zb_1, zem, z01, z11, nI_add, ↓reduceIte, not_true_eq_false, not_false_eq_true, n0T, n1F, n11T, true_or, or_true, false_or]
theorem m_givesOn {sc : Int32 × (Int32 → Int32)} {f : zF} {a : zA} {j : zJ} {d w i : Nat} {σ : Nat → Nat} (hR : MR σ a) (hV : VR σ) (hi : i < σ 0) (hA : ∀ g, g < σ 0 → a 93 (nI g) = nI (hvA σ w i g)) :
    ∃ a' : zA, cf sc (d + 3) 121 [.ref 85, .int (nI i)] f a j = some (none, f, a', j) ∧ (∀ g, g < σ 0 → a' 93 (nI g) = nI ((if g = i then 0 else hvA σ w i g) + shr σ (hvA σ w i i) (toB σ i) g)) ∧ ∀ k, k ≠ 93 → k ≠ 96 → k ≠ 97 → a' k = a k := by
  have hn := hV.1
  have ix0 : zIx 21 86 (nI 0) := ix86 (by omega)
  have ix3 : zIx 21 93 (nI i) := ix93 (by omega)
  have ix16 : zIx 21 86 (nI (16 + i)) := ix86 (by omega)
  have hR1 : MR σ (zuA a 93 (nI i) (nI 0)) := hR.of (zuA_nk (by omega))
  have e16 := hR1 (16 + i) (by omega)
  have h4 := (hV.2.2.1 i hi).1
  have n1 : ¬ nI (σ (16 + i)) = -1 := by
    intro e
    have h1 := congrArg Int32.toInt e
    rw [nI_toInt (by omega)] at h1
    have h2 : (-1 : Int32).toInt = -1 := by decide
    omega
  have p1 := m_present (sc := sc) (d := d) (f := f) (j := j) (v := nI (σ (16 + i))) (P := nrB σ i) hR1 hV (fun g hg => by
    have q1 : (nI (σ (16 + g)) = nI (σ (16 + i))) = (σ (16 + g) = σ (16 + i)) := propext (nI_eq (by have := (hV.2.2.1 g hg).1; omega) (by omega))
    unfold nrB prB
    by_cases w1 : σ (32 + g) = 1 <;> by_cases w2 : σ (16 + g) = σ (16 + i) <;> simp [hg, w1, w2, n1, q1])
  have p0 := m_present (sc := sc) (d := d) (f := f) (j := j) (v := -1) (P := prB σ) hR1 hV (fun g hg => by
    unfold prB
    by_cases w1 : σ (32 + g) = 1 <;> simp [hg, w1])
  have b1 : ∀ g, g < 32 → bt (btS (nrB σ i) (σ 0)) g = nrB σ i g := by
    intro g hg
    rw [btS_bt _ _ hn g hg]
    unfold nrB prB
    by_cases q : g < σ 0 <;> simp [q]
  have b0 : ∀ g, g < 32 → bt (btS (prB σ) (σ 0)) g = prB σ g := by
    intro g hg
    rw [btS_bt _ _ hn g hg]
    unfold prB
    by_cases q : g < σ 0 <;> simp [q]
  have hz := nr_zero hV b1
  have hm : hvA σ w i i ≤ 2 ^ 24 := by have := hvA_24 hV (w := w) (i := i) (g := i) (by omega) hi; omega
  have hX : ∃ X : Int32, (∀ g, g < 8 → bt X g = toB σ i g) ∧ (if btS (nrB σ i) (σ 0) = 0 then btS (prB σ) (σ 0) else btS (nrB σ i) (σ 0)) = X := by
    refine ⟨_, fun g hg => ?_, rfl⟩
    unfold toB
    by_cases q : anB σ i (σ 0) = true
    · rw [if_pos q, if_neg (fun z => hz.mp z q)]
      exact b1 g (by omega)
    · rw [if_neg q, if_pos (hz.mpr q)]
      exact b0 g (by omega)
  obtain ⟨X, hX1, hX2⟩ := hX
  obtain ⟨a1, s1, s2, s3⟩ := m_shares (sc := sc) (d := d + 1) (f := f) (j := j) hR1 hV hm hX1
  have hR2 : MR σ a1 := hR1.of (s3 86 (by omega) (by omega))
  have key := zLoopP (n := σ 0) (g := fun s : (Nat × zA) => rn sc (cf sc (d + 2)) 121 49 [.ref 85, .int (nI i), .int (nI (hvA σ w i i)), .int (btS (nrB σ i) (σ 0)), .int (nI s.1)] [] f s.2 j) (P := fun k s => s.1 = k ∧ (∀ g, g < σ 0 → s.2 93 (nI g) = nI (if g < k then (if g = i then 0 else hvA σ w i g) + shr σ (hvA σ w i i) (toB σ i) g else (if g = i then 0 else hvA σ w i g))) ∧ ∀ q, q ≠ 93 → s.2 q = a1 q) (by
    intro k s hk hP
    obtain ⟨k', a2⟩ := s
    obtain ⟨rfl, g1, g2⟩ := hP
    dsimp only at g1 g2 hk
    have hR3 : MR σ a2 := hR2.of (g2 86 (by omega))
    have e0 := hR3 0 (by omega)
    have c1 : ¬ nI (σ 0) ≤ nI k' := nI_ge hk (by omega)
    have i93 : zIx 21 93 (nI k') := ix93 (by omega)
    have i96 : zIx 21 96 (nI k') := ix96 (by omega)
    have e1 : a2 93 (nI k') = nI (if k' = i then 0 else hvA σ w i k') := by rw [g1 k' hk, if_neg (by omega)]
    have e2 : a2 96 (nI k') = nI (shr σ (hvA σ w i i) (toB σ i) k') := by rw [g2 96 (by omega)]; exact s2 k' hk
    refine ⟨(k' + 1, zuA a2 93 (nI k') (nI ((if k' = i then 0 else hvA σ w i k') + shr σ (hvA σ w i i) (toB σ i) k'))), ⟨rfl, fun g hg => ?_, fun q hq => (zuA_nk hq).trans (g2 q hq)⟩, ?_⟩
    · dsimp only
      by_cases e : g = k'
      · rw [e, if_pos (show k' < k' + 1 by omega)]; exact zuA_eq
      · rw [zuA_ni (nI_ne (by omega) (by omega) e), g1 g hg]
        by_cases q : g < k'
        · rw [if_pos q, if_pos (show g < k' + 1 by omega)]
        · rw [if_neg q, if_neg (show ¬ g < k' + 1 by omega)]
    · dsimp only
      rw [q121_49]
      simp only [q121_0, q121_1, q121_4, q121_5, q121_6, q121_7, q121_8, q121_11, q121_12, q121_13, q121_14, q121_15, q121_16, q121_19, q121_21, q121_22, q121_23, q121_24, q121_27, q121_28, q121_29, q121_30, q121_31, q121_34, q121_35, q121_36, q121_39, q121_42, q121_43, q121_46, q121_47, q121_51, q121_52, q121_55, q121_56, q121_57, q121_60, q121_61, q121_64, q121_66, q121_67, q121_68, q121_69, q121_72, q121_74, q121_75, q121_76, q121_77, q121_80, q121_83, ix0, e0, c1, i93, i96, e1, e2, zCall_some, Option.toList, List.cons_append, List.nil_append, zb_0, zb_1, zem, z01, z11, nI_add, ↓reduceIte, not_true_eq_false, not_false_eq_true, n0T, n1F, n11T, true_or, or_true, false_or]) (0, a1) ⟨rfl, fun g hg => by
        dsimp only
        rw [if_neg (by omega), s3 93 (by omega) (by omega)]
        by_cases e : g = i
        · rw [if_pos e, e]; exact zuA_eq
        · rw [if_neg e, zuA_ni (nI_ne (by omega) (by omega) e)]; exact hA g hg, fun _ _ => rfl⟩
  obtain ⟨⟨k, a2⟩, ⟨hk, g1, g2⟩, e⟩ := key
  dsimp only at g1 g2 hk e
  rw [hk] at e
  refine ⟨a2, ?_, fun g hg => by rw [g1 g hg, if_pos hg], fun q q1 q2 q3 => by rw [g2 q q1, s3 q q2 q3, zuA_nk q1]⟩
  have hR3 : MR σ a2 := hR2.of (g2 86 (by omega))
  have e0 := hR3 0 (by omega)
  have c1 : nI (σ 0) ≤ nI (σ 0) := nI_le (Nat.le_refl _) (by omega)
  have ei := hA i hi
  have fin : rn sc (cf sc (d + 2)) 121 49 [.ref 85, .int (nI i), .int (nI (hvA σ w i i)), .int (btS (nrB σ i) (σ 0)), .int (nI 0)] [] f a1 j = some (none, f, a2, j) := by
    refine Eq.trans (show _ = _ from e) ?_
    simp only [q121_49, q121_51, q121_52, q121_55, q121_56, q121_57, q121_83, ix0, e0, c1, zCall_some, Option.toList, List.cons_append, List.nil_append, zb_0, zb_1, zem, z01, z11, nI_add, ↓reduceIte, not_true_eq_false, not_false_eq_true, n0T, n1F, n11T, true_or, or_true, false_or]
  rw [en121]
  by_cases hb : btS (nrB σ i) (σ 0) = 0
  · rw [if_pos hb] at hX2
    subst hX2
    simp only [q121_0, q121_1, q121_4, q121_5, q121_6, q121_7, q121_8, q121_11, q121_12, q121_13, q121_14, q121_15, q121_16, q121_19, q121_21, q121_22, q121_23, q121_24, q121_27, q121_28, q121_29, q121_30, q121_31, q121_34, q121_35, q121_36, q121_39, q121_42, q121_43, q121_46, q121_47, q121_51, q121_52, q121_55, q121_56, q121_57, q121_60, q121_61, q121_64, q121_66, q121_67, q121_68, q121_69, q121_72, q121_74, q121_75, q121_76, q121_77, q121_80, q121_83, ix3, ei, ix16, e16, p1, eq_true hb, p0, s1, fin, zCall_some, Option.toList, List.cons_append, List.nil_append, zb_0, zb_1, zem, z01, z11, nI_add, ↓reduceIte, not_true_eq_false, not_false_eq_true, n0T, n1F, n11T, true_or, or_true, false_or]
  · rw [if_neg hb] at hX2
    subst hX2
    simp only [q121_0, q121_1, q121_4, q121_5, q121_6, q121_7, q121_8, q121_11, q121_12, q121_13, q121_14, q121_15, q121_16, q121_19, q121_21, q121_22, q121_23, q121_24, q121_27, q121_28, q121_29, q121_30, q121_31, q121_34, q121_35, q121_36, q121_39, q121_42, q121_43, q121_46, q121_47, q121_51, q121_52, q121_55, q121_56, q121_57, q121_60, q121_61, q121_64, q121_66, q121_67, q121_68, q121_69, q121_72, q121_74, q121_75, q121_76, q121_77, q121_80, q121_83, ix3, ei, ix16, e16, p1, eq_false hb, s1, fin, zCall_some, Option.toList, List.cons_append, List.nil_append, zb_0, zb_1, zem, z01, z11, nI_add, ↓reduceIte, not_true_eq_false, not_false_eq_true, n0T, n1F, n11T, true_or, or_true, false_or]
theorem ha_2 {sc : Int32 × (Int32 → Int32)} {d : Nat} {f : zF} {j : zJ} {w : Nat} {σ : Nat → Nat} {v1 : Value} (hV : VR σ) : ∀ (m i : Nat) (a : zA), i + m = σ 0 → MR σ a → (∀ g, g < σ 0 → a 93 (nI g) = nI (hvA σ w i g)) →
    ∃ a' : zA, rn sc (cf sc (d + 3)) 122 44 [.ref 85, v1, .int (nI i)] [] f a j = rn sc (cf sc (d + 3)) 122 73 [.ref 85, v1, .int (nI (σ 0))] [] f a' j ∧ (∀ g, g < σ 0 → a' 93 (nI g) = nI (hvA σ w (σ 0) g)) ∧ ∀ k, k ≠ 93 → k ≠ 96 → k ≠ 97 → a' k = a k := by
  have hn := hV.1
  have ix0 : zIx 21 86 (nI 0) := ix86 (by omega)
  intro m
  induction m with
  | zero =>
    intro i a hi hR hA
    have e : i = σ 0 := by omega
    subst e
    have e0 := hR 0 (by omega)
    have c1 : nI (σ 0) ≤ nI (σ 0) := nI_le (Nat.le_refl _) (by omega)
    refine ⟨a, ?_, hA, fun _ _ _ _ => rfl⟩
    simp only [q122_44, q122_45, q122_46, q122_49, q122_50, q122_51, ix0, e0, c1, zCall_some, Option.toList, List.cons_append, List.nil_append, zb_0, zb_1, zem, z01, z11, nI_add, ↓reduceIte, not_true_eq_false, not_false_eq_true, n0T, n1F, n11T, true_or, or_true, false_or]
  | succ m ih =>
    intro i a hi hR hA
    have hin : i < σ 0 := by omega
    have e0 := hR 0 (by omega)
    have c1 : ¬ nI (σ 0) ≤ nI i := nI_ge hin (by omega)
    have hW := m_isAwayR (sc := sc) (d := d + 2) (f := f) (j := j) hR (show i < 8 by omega) (hV.2.2.1 i hin).2.2
    rw [q122_44]
    by_cases haw : σ (32 + i) = 1
    · obtain ⟨a1, g1, g2, g3⟩ := m_givesOn (sc := sc) (d := d) (f := f) (j := j) hR hV hin hA
      obtain ⟨a', h1, h2, h3⟩ := ih (i + 1) a1 (by omega) (hR.of (g3 86 (by omega) (by omega) (by omega))) (fun g hg => by rw [hvA_s, if_pos haw]; exact g2 g hg)
      refine ⟨a', ?_, h2, fun k k1 k2 k3 => by rw [h3 k k1 k2 k3, g3 k k1 k2 k3]⟩
      rw [← h1]
      simp only [q122_0, q122_1, q122_2, q122_5, q122_6, q122_9, q122_12, q122_13, q122_14, q122_15, q122_16, q122_19, q122_20, q122_21, q122_24, q122_25, q122_28, q122_29, q122_30, q122_33, q122_34, q122_35, q122_36, q122_39, q122_42, q122_43, q122_45, q122_46, q122_49, q122_50, q122_51, q122_54, q122_55, q122_56, q122_59, q122_62, q122_63, q122_64, q122_67, q122_70, q122_74, q122_75, q122_76, q122_77, q122_80, q122_81, q122_82, q122_85, q122_86, q122_89, q122_90, q122_93, q122_94, q122_97, q122_99, q122_100, q122_101, q122_102, q122_103, q122_104, q122_105, q122_108, q122_110, q122_111, q122_112, q122_113, q122_114, q122_115, q122_116, q122_119, q122_120, q122_123, q122_125, q122_126, q122_127, q122_128, q122_129, q122_130, q122_131, q122_134, q122_136, q122_137, q122_138, q122_139, q122_140, q122_141, q122_144, q122_147, ix0, e0, c1, hW, eq_true haw, g1, zCall_some, Option.toList, List.cons_append, List.nil_append, zb_0, zb_1, zem, z01, z11, nI_add, ↓reduceIte, not_true_eq_false, not_false_eq_true, n0T, n1F, n11T, true_or, or_true, false_or]
    · obtain ⟨a', h1, h2, h3⟩ := ih (i + 1) a (by omega) hR (fun g hg => by rw [hvA_s, if_neg haw]; exact hA g hg)
      refine ⟨a', ?_, h2, h3⟩
      rw [← h1]
      simp only [q122_0, q122_1, q122_2, q122_5, q122_6, q122_9, q122_12, q122_13, q122_14, q122_15, q122_16, q122_19, q122_20, q122_21, q122_24, q122_25, q122_28, q122_29, q122_30, q122_33, q122_34, q122_35, q122_36, q122_39, q122_42, q122_43, q122_45, q122_46, q122_49, q122_50, q122_51, q122_54, q122_55, q122_56, q122_59, q122_62, q122_63, q122_64, q122_67, q122_70, q122_74, q122_75, q122_76, q122_77, q122_80, q122_81, q122_82, q122_85, q122_86, q122_89, q122_90, q122_93, q122_94, q122_97, q122_99, q122_100, q122_101, q122_102, q122_103, q122_104, q122_105, q122_108, q122_110, q122_111, q122_112, q122_113, q122_114, q122_115, q122_116, q122_119, q122_120, q122_123, q122_125, q122_126, q122_127, q122_128, q122_129, q122_130, q122_131, q122_134, q122_136, q122_137, q122_138, q122_139, q122_140, q122_141, q122_144, q122_147, ix0, e0, c1, hW, eq_false haw, zCall_some, Option.toList, List.cons_append, List.nil_append, zb_0, zb_1, zem, z01, z11, nI_add, ↓reduceIte, not_true_eq_false, not_false_eq_true, n0T, n1F, n11T, true_or, or_true, false_or]
theorem ha_3 {sc : Int32 × (Int32 → Int32)} {F : zCF} {f : zF} {a : zA} {j : zJ} {w : Nat} {σ : Nat → Nat} (hR : MR σ a) (hV : VR σ) (hT : TrOK σ w) (hA : ∀ g, g < σ 0 → a 93 (nI g) = nI (hvT σ w 0 g)) :
    ∃ a' : zA, rn sc F 122 75 [.ref 85, .int (nI 1), .int (nI 0)] [] f a j = some (none, f, a', j) ∧ (∀ g, g < σ 0 → a' 93 (nI g) = nI (hvT σ w (σ 4) g)) ∧ ∀ k, k ≠ 93 → a' k = a k := by
  have hn := hV.1
  obtain ⟨h12, hT⟩ := hT
  have ix4 : zIx 21 86 (nI 4) := ix86 (by omega)
  have key := zLoopP (n := σ 4) (g := fun s : (Nat × zA) => rn sc F 122 75 [.ref 85, .int (nI 1), .int (nI s.1)] [] f s.2 j) (P := fun i s => s.1 = i ∧ (∀ g, g < σ 0 → s.2 93 (nI g) = nI (hvT σ w i g)) ∧ ∀ k, k ≠ 93 → s.2 k = a k) (by
    intro i s hi hP
    obtain ⟨i', a1⟩ := s
    obtain ⟨rfl, h1, h2⟩ := hP
    dsimp only at h1 h2 hi
    obtain ⟨p1, p2, p3⟩ := hT i' hi
    have hR1 : MR σ a1 := hR.of (h2 86 (by omega))
    have e4 := hR1 4 (by omega)
    have c1 : ¬ nI (σ 4) ≤ nI i' := nI_ge hi (by omega)
    have i40 : zIx 21 86 (nI (40 + i')) := ix86 (by omega)
    have i52 : zIx 21 86 (nI (52 + i')) := ix86 (by omega)
    have i64 : zIx 21 86 (nI (64 + i')) := ix86 (by omega)
    have e40 := hR1 (40 + i') (by omega)
    have e64 := hR1 (64 + i') (by omega)
    have hR2 : ∀ x y : Int32, MR σ (zuA a1 93 x y) := fun x y => hR1.of (zuA_nk (by omega))
    have e52 : ∀ x y : Int32, zuA a1 93 x y 86 (nI (52 + i')) = nI (σ (52 + i')) := fun x y => hR2 x y (52 + i') (by omega)
    have e64' : ∀ x y : Int32, zuA a1 93 x y 86 (nI (64 + i')) = nI (σ (64 + i')) := fun x y => hR2 x y (64 + i') (by omega)
    have ixp : zIx 21 93 (nI (σ (40 + i'))) := ix93 (by omega)
    have ixq : zIx 21 93 (nI (σ (52 + i'))) := ix93 (by omega)
    have s1 : nI (hvT σ w i' (σ (40 + i'))) - nI (σ (64 + i')) = nI (hvT σ w i' (σ (40 + i')) - σ (64 + i')) := pk_sub p3
    have q2 : zuA a1 93 (nI (σ (40 + i'))) (nI (hvT σ w i' (σ (40 + i')) - σ (64 + i'))) 93 (nI (σ (52 + i'))) = nI (if σ (52 + i') = σ (40 + i') then hvT σ w i' (σ (40 + i')) - σ (64 + i') else hvT σ w i' (σ (52 + i'))) := by
      by_cases e : σ (52 + i') = σ (40 + i')
      · rw [if_pos e, e]; exact zuA_eq
      · rw [if_neg e, zuA_ni (nI_ne (by omega) (by omega) e)]; exact h1 _ p2
    refine ⟨(i' + 1, zuA (zuA a1 93 (nI (σ (40 + i'))) (nI (hvT σ w i' (σ (40 + i')) - σ (64 + i')))) 93 (nI (σ (52 + i'))) (nI ((if σ (52 + i') = σ (40 + i') then hvT σ w i' (σ (40 + i')) - σ (64 + i') else hvT σ w i' (σ (52 + i'))) + σ (64 + i')))), ⟨rfl, fun g hg => ?_, fun k hk => (zuA_nk hk).trans ((zuA_nk hk).trans (h2 k hk))⟩, ?_⟩
    · show zuA _ 93 _ _ 93 (nI g) = nI (hvM (hvT σ w i') (σ (40 + i')) (σ (52 + i')) (σ (64 + i')) g)
      unfold hvM
      by_cases e : g = σ (52 + i')
      · rw [if_pos e, e]; exact zuA_eq
      · rw [if_neg e, zuA_ni (nI_ne (by omega) (by omega) e)]
        by_cases e' : g = σ (40 + i')
        · rw [if_pos e', e']; exact zuA_eq
        · rw [if_neg e', zuA_ni (nI_ne (by omega) (by omega) e')]; exact h1 g hg
    · dsimp only
      rw [q122_75]
      simp only [q122_0, q122_1, q122_2, q122_5, q122_6, q122_9, q122_12, q122_13, q122_14, q122_15, q122_16, q122_19, q122_20, q122_21, q122_24, q122_25, q122_28, q122_29, q122_30, q122_33, q122_34, q122_35, q122_36, q122_39, q122_42, q122_43, q122_44, q122_45, q122_46, q122_49, q122_50, q122_51, q122_54, q122_55, q122_56, q122_59, q122_62, q122_63, q122_64, q122_67, q122_70, q122_73, q122_74, q122_76, q122_77, q122_80, q122_81, q122_82, q122_85, q122_86, q122_89, q122_90, q122_93, q122_94, q122_97, q122_99, q122_100, q122_101, q122_102, q122_103, q122_104, q122_105, q122_108, q122_110, q122_111, q122_112, q122_113, q122_114, q122_115, q122_116, q122_119, q122_120, q122_123, q122_125, q122_126, q122_127, q122_128, q122_129, q122_130, q122_131, q122_134, q122_136, q122_137, q122_138, q122_139, q122_140, q122_141, q122_144, q122_147, ix4, e4, c1, i40, i52, i64, e40, e64, e52, e64', ixp, ixq, h1 _ p1, s1, q2, n1F, zCall_some, Option.toList, List.cons_append, List.nil_append, zb_0, zb_1, zem, z01, z11, nI_add, ↓reduceIte, not_true_eq_false, not_false_eq_true, n0T, n1F, n11T, true_or, or_true, false_or]) (0, a) ⟨rfl, hA, fun _ _ => rfl⟩
  obtain ⟨⟨i, a'⟩, ⟨hi, h1, h2⟩, e⟩ := key
  dsimp only at h1 h2 e hi
  rw [hi] at e
  refine ⟨a', ?_, h1, h2⟩
  have e4 := (hR.of (h2 86 (by omega))) 4 (by omega)
  have c1 : nI (σ 4) ≤ nI (σ 4) := nI_le (Nat.le_refl _) (by omega)
  refine Eq.trans (show _ = _ from e) ?_
  simp only [q122_75, q122_76, q122_77, q122_80, q122_81, q122_82, q122_147, ix4, e4, c1, zCall_some, Option.toList, List.cons_append, List.nil_append, zb_0, zb_1, zem, z01, z11, nI_add, ↓reduceIte, not_true_eq_false, not_false_eq_true, n0T, n1F, n11T, true_or, or_true, false_or]
theorem m_haveAll {sc : Int32 × (Int32 → Int32)} {f : zF} {a : zA} {j : zJ} {d w : Nat} {σ : Nat → Nat} {tr : Bool} (hR : MR σ a) (hV : VR σ) (hl : f 85 14 = nI (leftOf σ w)) (hT : tr = true → TrOK σ w) :
    ∃ a' : zA, cf sc (d + 4) 122 [.ref 85, .int (nI (if tr = true then 1 else 0))] f a j = some (none, f, a', j) ∧ (∀ g, g < σ 0 → a' 93 (nI g) = nI (hvOf σ w tr g)) ∧ ∀ k, k ≠ 93 → k ≠ 96 → k ≠ 97 → a' k = a k := by
  have hn := hV.1
  have ix0 : zIx 21 86 (nI 0) := ix86 (by omega)
  have hlf : leftOf σ w ≤ 97 := by unfold leftOf; have := hV.2.1; omega
  have hAF := m_allFields (sc := sc) (d := d + 2) (f := f) (j := j) hR
  obtain ⟨a1, s1, s2, s3⟩ := m_shares (sc := sc) (d := d + 2) (f := f) (j := j) (w := leftOf σ w) (S := alB σ) (x := (nI 1 <<< (nI (σ 0) &&& 31)) - nI 1) hR hV (by omega) (fun g hg => by rw [bt_all _ hn g (by omega)]; rfl)
  have hR1 : MR σ a1 := hR.of (s3 86 (by omega) (by omega))
  have key := zLoopP (n := σ 0) (g := fun s : (Nat × zA) => rn sc (cf sc (d + 3)) 122 14 [.ref 85, .int (nI (if tr = true then 1 else 0)), .int (nI s.1)] [] f s.2 j) (P := fun k s => s.1 = k ∧ (∀ g, g < k → s.2 93 (nI g) = nI (hvA σ w 0 g)) ∧ ∀ q, q ≠ 93 → s.2 q = a1 q) (by
    intro k s hk hP
    obtain ⟨k', a2⟩ := s
    obtain ⟨rfl, g1, g2⟩ := hP
    dsimp only at g1 g2 hk
    have e0 := (hR1.of (g2 86 (by omega))) 0 (by omega)
    have c1 : ¬ nI (σ 0) ≤ nI k' := nI_ge hk (by omega)
    have i93 : zIx 21 93 (nI k') := ix93 (by omega)
    have i96 : zIx 21 96 (nI k') := ix96 (by omega)
    have e2 : a2 96 (nI k') = nI (hvA σ w 0 k') := by rw [g2 96 (by omega)]; exact s2 k' hk
    refine ⟨(k' + 1, zuA a2 93 (nI k') (nI (hvA σ w 0 k'))), ⟨rfl, fun g hg => ?_, fun q hq => (zuA_nk hq).trans (g2 q hq)⟩, ?_⟩
    · dsimp only
      by_cases e : g = k'
      · rw [e]; exact zuA_eq
      · rw [zuA_ni (nI_ne (by omega) (by omega) e)]; exact g1 g (by omega)
    · dsimp only
      rw [q122_14]
      simp only [q122_15, q122_16, q122_19, q122_20, q122_21, q122_24, q122_25, q122_28, q122_29, q122_30, q122_33, q122_34, q122_35, q122_36, q122_39, ix0, e0, c1, i93, i96, e2, zCall_some, Option.toList, List.cons_append, List.nil_append, zb_0, zb_1, zem, z01, z11, nI_add, ↓reduceIte, not_true_eq_false, not_false_eq_true, n0T, n1F, n11T, true_or, or_true, false_or]) (0, a1) ⟨rfl, fun g hg => by omega, fun _ _ => rfl⟩
  obtain ⟨⟨k, a2⟩, ⟨hk, g1, g2⟩, e⟩ := key
  dsimp only at g1 g2 hk e
  rw [hk] at e
  have hR2 : MR σ a2 := hR1.of (g2 86 (by omega))
  have e0 := hR2 0 (by omega)
  have c1 : nI (σ 0) ≤ nI (σ 0) := nI_le (Nat.le_refl _) (by omega)
  obtain ⟨a3, t1, t2, t3⟩ := ha_2 (sc := sc) (d := d) (f := f) (j := j) (w := w) (v1 := .int (nI (if tr = true then 1 else 0))) hV (σ 0) 0 a2 (by omega) hR2 g1
  have hR3 : MR σ a3 := hR2.of (t3 86 (by omega) (by omega) (by omega))
  have hbeg : cf sc (d + 4) 122 [.ref 85, .int (nI (if tr = true then 1 else 0))] f a j = rn sc (cf sc (d + 3)) 122 75 [.ref 85, .int (nI (if tr = true then 1 else 0)), .int (nI 0)] [] f a3 j := by
    rw [en122]
    simp only [q122_0, q122_1, q122_2, q122_5, q122_6, q122_9, q122_12, q122_13, hl, hAF, s1, zCall_some, Option.toList, List.cons_append, List.nil_append, zb_0, zb_1, zem, z01, z11, nI_add, ↓reduceIte, not_true_eq_false, not_false_eq_true, n0T, n1F, n11T, true_or, or_true, false_or]
    refine Eq.trans (show _ = _ from e) ?_
    simp only [q122_14, q122_15, q122_16, q122_19, q122_20, q122_21, q122_42, q122_43, ix0, e0, c1, zCall_some, Option.toList, List.cons_append, List.nil_append, zb_0, zb_1, zem, z01, z11, nI_add, ↓reduceIte, not_true_eq_false, not_false_eq_true, n0T, n1F, n11T, true_or, or_true, false_or]
    refine Eq.trans (show _ = _ from t1) ?_
    simp only [q122_73, q122_74, zCall_some, Option.toList, List.cons_append, List.nil_append, zb_0, zb_1, zem, z01, z11, nI_add, ↓reduceIte, not_true_eq_false, not_false_eq_true, n0T, n1F, n11T, true_or, or_true, false_or]
  rw [hbeg]
  have kf : ∀ q, q ≠ 93 → q ≠ 96 → q ≠ 97 → a3 q = a q := fun q q1 q2 q3 => by rw [t3 q q1 q2 q3, g2 q q1, s3 q q2 q3]
  cases tr with
  | false =>
    refine ⟨a3, ?_, t2, kf⟩
    have ix4 : zIx 21 86 (nI 4) := ix86 (by omega)
    have e4 := hR3 4 (by omega)
    rw [if_neg (show ¬ false = true by decide), q122_75]
    by_cases c4 : nI (σ 4) ≤ nI 0
    · simp only [q122_76, q122_77, q122_80, q122_81, q122_82, q122_147, ix4, e4, c4, zCall_some, Option.toList, List.cons_append, List.nil_append, zb_0, zb_1, zem, z01, z11, nI_add, ↓reduceIte, not_true_eq_false, not_false_eq_true, n0T, n1F, n11T, true_or, or_true, false_or]
    · simp only [q122_76, q122_77, q122_80, q122_81, q122_82, q122_85, q122_86, q122_147, ix4, e4, c4, zCall_some, Option.toList, List.cons_append, List.nil_append, zb_0, zb_1, zem, z01, z11, nI_add, ↓reduceIte, not_true_eq_false, not_false_eq_true, n0T, n1F, n11T, true_or, or_true, false_or]
  | true =>
    obtain ⟨a4, u1, u2, u3⟩ := ha_3 (sc := sc) (F := cf sc (d + 3)) (f := f) (j := j) (w := w) hR3 hV (hT rfl) t2
    exact ⟨a4, u1, u2, fun q q1 q2 q3 => by rw [u3 q q1, kf q q1 q2 q3]⟩
