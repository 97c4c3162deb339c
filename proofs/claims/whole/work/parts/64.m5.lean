/-! ===== the reference: shares, present, givesOn, haveAll ===== -/
theorem bit_z {x : Int32} : (x &&& nI 1 = 0) ↔ ¬ bt x 0 = true := by
  have h1 : bt (nI 1) 0 = true := by decide
  have h2 : ∀ i, i < 32 → i ≠ 0 → bt (nI 1) i = false := by decide
  constructor
  · intro h q
    have h3 := congrArg (fun z => bt z 0) h
    simp only [b_and] at h3
    rw [h1, q, b_0] at h3
    simp at h3
  · intro h
    apply b_ext
    intro i hi
    rw [b_and, b_0]
    by_cases h0 : i = 0
    · subst h0
      simp [h]
    · rw [h2 i hi h0]; simp
theorem bit_q0 {x : Int32} {q : Nat} (hq : q < 32) : ((x >>> (nI q &&& 31)) &&& nI 1 = 0) ↔ ¬ bt x q = true := by
  rw [bit_z, b_sshr q hq x (by omega)]
  simp [hq]
theorem sr_1 {sc : Int32 × (Int32 → Int32)} {F : zCF} {f : zF} {j : zJ} {σ : Nat → Nat} {S : Nat → Bool} {x : Int32} {v1 v5 v6 : Value} (hV : VR σ) (hS : ∀ g, g < 8 → bt x g = S g) : ∀ (m i : Nat) (a : zA), i + m = σ 0 → MR σ a → (∀ q, q < i → a 96 (nI q) = nI 0 ∧ a 97 (nI q) = -1) →
    ∃ a' : zA, rn sc F 124 5 [.ref 85, v1, .int x, .int (nI (shA σ S i)), .int (nI i), v5, v6] [] f a j = rn sc F 124 61 [.ref 85, v1, .int x, .int (nI (shA σ S (σ 0))), .int (nI (σ 0)), v5, v6] [] f a' j ∧ (∀ q, q < σ 0 → a' 96 (nI q) = nI 0 ∧ a' 97 (nI q) = -1) ∧ ∀ k, k ≠ 96 → k ≠ 97 → a' k = a k := by
  have hn := hV.1
  have ix0 : zIx 21 86 (nI 0) := ix86 (by omega)
  intro m
  induction m with
  | zero =>
    intro i a hi hR hA
    have e : i = σ 0 := by omega
    subst e
    have c1 : nI (σ 0) ≤ nI (σ 0) := nI_le (Nat.le_refl _) (by omega)
    have e0 := hR 0 (by omega)
    refine ⟨a, ?_, hA, fun _ _ _ => rfl⟩
    simp only [q124_5, q124_7, q124_8, q124_11, q124_12, q124_13, ix0, e0, c1, zCall_some, Option.toList, List.cons_append, List.nil_append, zb_0, zb_1, zem, z01, z11, nI_add, ↓reduceIte, not_true_eq_false, not_false_eq_true, n0T, n1F, n11T, true_or, or_true, false_or]
  | succ m ih =>
    intro i a hi hR hA
    have hin : i < σ 0 := by omega
    have c1 : ¬ nI (σ 0) ≤ nI i := nI_ge hin (by omega)
    have e0 := hR 0 (by omega)
    have ix1 : zIx 21 96 (nI i) := ix96 (by omega)
    have ix2 : zIx 21 97 (nI i) := ix97 (by omega)
    have ix24 : zIx 21 86 (nI (24 + i)) := ix86 (by omega)
    have hR' : MR σ (zuA (zuA a 96 (nI i) (nI 0)) 97 (nI i) (-1)) := hR.of (by rw [zuA_nk (by omega), zuA_nk (by omega)])
    have e24 := hR' (24 + i) (by omega)
    obtain ⟨a', h1, h2, h3⟩ := ih (i + 1) (zuA (zuA a 96 (nI i) (nI 0)) 97 (nI i) (-1)) (by omega) hR' (fun q hq => by
      by_cases e : q = i
      · rw [e]
        exact ⟨by rw [zuA_nk (by omega)]; exact zuA_eq, zuA_eq⟩
      · rw [zuA_ni (nI_ne (by omega) (by omega) e), zuA_ni (nI_ne (by omega) (by omega) e), zuA_ni (nI_ne (by omega) (by omega) e), zuA_ni (nI_ne (by omega) (by omega) e)]
        exact hA q (by omega))
    refine ⟨a', ?_, h2, fun k k1 k2 => by rw [h3 k k1 k2, zuA_nk k2, zuA_nk k1]⟩
    have hb : (x >>> (nI i &&& 31) &&& nI 1 = nI 1) = (S i = true) := propext ((bit_q (by omega)).trans (by rw [hS i (by omega)]))
    rw [← h1, q124_5, shA_s]
    by_cases hs : S i = true
    · rw [if_pos hs]
      simp only [q124_0, q124_1, q124_2, q124_3, q124_7, q124_8, q124_11, q124_12, q124_13, q124_16, q124_17, q124_20, q124_22, q124_23, q124_24, q124_25, q124_28, q124_30, q124_31, q124_32, q124_33, q124_35, q124_36, q124_37, q124_38, q124_39, q124_42, q124_43, q124_44, q124_47, q124_49, q124_51, q124_52, q124_53, q124_54, q124_55, q124_58, q124_62, q124_65, q124_66, q124_67, q124_69, q124_70, q124_72, q124_74, q124_75, q124_78, q124_79, q124_80, q124_83, q124_84, q124_86, q124_87, q124_88, q124_89, q124_92, q124_95, q124_96, q124_99, q124_101, q124_102, q124_103, q124_106, q124_108, q124_110, q124_111, q124_112, q124_113, q124_114, q124_115, q124_116, q124_117, q124_120, q124_122, q124_123, q124_124, q124_127, q124_129, q124_131, q124_132, q124_133, q124_134, q124_135, q124_136, q124_137, q124_139, q124_140, q124_143, q124_145, q124_146, q124_147, q124_149, q124_152, q124_155, q124_157, q124_160, q124_161, q124_163, q124_164, q124_166, q124_168, q124_169, q124_172, q124_173, q124_174, q124_177, q124_178, q124_181, q124_183, q124_184, q124_185, q124_188, q124_190, q124_191, q124_194, q124_196, q124_198, q124_201, q124_204, q124_205, q124_208, q124_210, q124_211, q124_212, q124_213, q124_214, q124_215, q124_216, q124_219, q124_221, q124_222, q124_223, q124_226, q124_229, ix0, e0, c1, ix1, ix2, hb, eq_true hs, ix24, e24, zCall_some, Option.toList, List.cons_append, List.nil_append, zb_0, zb_1, zem, z01, z11, nI_add, ↓reduceIte, not_true_eq_false, not_false_eq_true, n0T, n1F, n11T, true_or, or_true, false_or]
    · rw [if_neg hs, Nat.add_zero]
      simp only [q124_0, q124_1, q124_2, q124_3, q124_7, q124_8, q124_11, q124_12, q124_13, q124_16, q124_17, q124_20, q124_22, q124_23, q124_24, q124_25, q124_28, q124_30, q124_31, q124_32, q124_33, q124_35, q124_36, q124_37, q124_38, q124_39, q124_42, q124_43, q124_44, q124_47, q124_49, q124_51, q124_52, q124_53, q124_54, q124_55, q124_58, q124_62, q124_65, q124_66, q124_67, q124_69, q124_70, q124_72, q124_74, q124_75, q124_78, q124_79, q124_80, q124_83, q124_84, q124_86, q124_87, q124_88, q124_89, q124_92, q124_95, q124_96, q124_99, q124_101, q124_102, q124_103, q124_106, q124_108, q124_110, q124_111, q124_112, q124_113, q124_114, q124_115, q124_116, q124_117, q124_120, q124_122, q124_123, q124_124, q124_127, q124_129, q124_131, q124_132, q124_133, q124_134, q124_135, q124_136, q124_137, q124_139, q124_140, q124_143, q124_145, q124_146, q124_147, q124_149, q124_152, q124_155, q124_157, q124_160, q124_161, q124_163, q124_164, q124_166, q124_168, q124_169, q124_172, q124_173, q124_174, q124_177, q124_178, q124_181, q124_183, q124_184, q124_185, q124_188, q124_190, q124_191, q124_194, q124_196, q124_198, q124_201, q124_204, q124_205, q124_208, q124_210, q124_211, q124_212, q124_213, q124_214, q124_215, q124_216, q124_219, q124_221, q124_222, q124_223, q124_226, q124_229, ix0, e0, c1, ix1, ix2, hb, eq_false hs, zCall_some, Option.toList, List.cons_append, List.nil_append, zb_0, zb_1, zem, z01, z11, nI_add, ↓reduceIte, not_true_eq_false, not_false_eq_true, n0T, n1F, n11T, true_or, or_true, false_or]
theorem sr_2 {sc : Int32 × (Int32 → Int32)} {F : zCF} {f : zF} {j : zJ} {w all : Nat} {σ : Nat → Nat} {S : Nat → Bool} {x : Int32} {v6 : Value} (hV : VR σ) (hw : w ≤ 2 ^ 24) (hS : ∀ g, g < 8 → bt x g = S g) (ha : shA σ S (σ 0) = all) (ha0 : 0 < all) : ∀ (m i : Nat) (a : zA), i + m = σ 0 → MR σ a → (∀ q, q < σ 0 → a 96 (nI q) = nI (if q < i then shB σ w S all q else 0) ∧ a 97 (nI q) = if q < i then shR σ w S all q else -1) →
    ∃ a' : zA, rn sc F 124 72 [.ref 85, .int (nI w), .int x, .int (nI all), .int (nI (w - shT σ w S all i)), .int (nI i), v6] [] f a j = rn sc F 124 155 [.ref 85, .int (nI w), .int x, .int (nI all), .int (nI (w - shT σ w S all (σ 0))), .int (nI (σ 0)), v6] [] f a' j ∧ (∀ q, q < σ 0 → a' 96 (nI q) = nI (shB σ w S all q) ∧ a' 97 (nI q) = shR σ w S all q) ∧ ∀ k, k ≠ 96 → k ≠ 97 → a' k = a k := by
  have hn := hV.1
  have ix0 : zIx 21 86 (nI 0) := ix86 (by omega)
  have hall : all ≤ 72 := by
    have := shA_le hV (S := S) (σ 0) (Nat.le_refl _)
    omega
  intro m
  induction m with
  | zero =>
    intro i a hi hR hA
    have e : i = σ 0 := by omega
    subst e
    have e0 := hR 0 (by omega)
    have c1 : nI (σ 0) ≤ nI (σ 0) := nI_le (Nat.le_refl _) (by omega)
    refine ⟨a, ?_, fun q hq => ?_, fun _ _ _ => rfl⟩
    · simp only [q124_72, q124_74, q124_75, q124_78, q124_79, q124_80, ix0, e0, c1, zCall_some, Option.toList, List.cons_append, List.nil_append, zb_0, zb_1, zem, z01, z11, nI_add, ↓reduceIte, not_true_eq_false, not_false_eq_true, n0T, n1F, n11T, true_or, or_true, false_or]
    · have := hA q hq
      rwa [if_pos hq, if_pos hq] at this
  | succ m ih =>
    intro i a hi hR hA
    have hin : i < σ 0 := by omega
    have e0 := hR 0 (by omega)
    have c1 : ¬ nI (σ 0) ≤ nI i := nI_ge hin (by omega)
    have ix1 : zIx 21 96 (nI i) := ix96 (by omega)
    have ix2 : zIx 21 97 (nI i) := ix97 (by omega)
    have ix24 : zIx 21 86 (nI (24 + i)) := ix86 (by omega)
    have hb : (x >>> (nI i &&& 31) &&& nI 1 = 0) = ¬ (S i = true) := propext ((bit_q0 (by omega)).trans (by rw [hS i (by omega)]))
    by_cases hs : S i = true
    · have h9 := (hV.2.2.1 i hin).2.1.2
      have hm : w * σ (24 + i) < 2 ^ 31 := by
        have : w * σ (24 + i) ≤ w * 9 := Nat.mul_le_mul_left w h9
        omega
      have e1 : nI w * nI (σ (24 + i)) = nI (w * σ (24 + i)) := pk_mul _ _
      have e2 : nI (w * σ (24 + i)) / nI all = nI (w * σ (24 + i) / all) := pk_div hm ha0 (by omega)
      have e3 : nI (w * σ (24 + i)) - nI (w * σ (24 + i) / all) * nI all = nI (w * σ (24 + i) % all) := by
        rw [← e2]; exact pk_rem hm ha0 (by omega)
      have z0 : nI all ≠ 0 := nI_ne0 ha0 (by omega)
      have hB : shB σ w S all i = w * σ (24 + i) / all := by unfold shB; rw [if_pos hs]
      have hRr : shR σ w S all i = nI (w * σ (24 + i) % all) := by unfold shR; rw [if_pos hs]
      have hT : shT σ w S all (i + 1) ≤ w := by
        rw [← ha] at ha0 ⊢
        exact shT_le ha0 (by omega)
      rw [shT_s, hB] at hT
      have e4 : nI (w - shT σ w S all i) - nI (w * σ (24 + i) / all) = nI (w - (shT σ w S all i + w * σ (24 + i) / all)) := by
        rw [pk_sub (by omega)]
        congr 1
        omega
      have hR1 : MR σ (zuA a 96 (nI i) (nI (w * σ (24 + i) / all))) := hR.of (by rw [zuA_nk (by omega)])
      have hR2 : MR σ (zuA (zuA a 96 (nI i) (nI (w * σ (24 + i) / all))) 97 (nI i) (nI (w * σ (24 + i) % all))) := hR1.of (by rw [zuA_nk (by omega)])
      have e24 := hR (24 + i) (by omega)
      have e24' := hR1 (24 + i) (by omega)
      have er : zuA (zuA a 96 (nI i) (nI (w * σ (24 + i) / all))) 97 (nI i) (nI (w * σ (24 + i) % all)) 96 (nI i) = nI (w * σ (24 + i) / all) := by rw [zuA_nk (by omega), zuA_eq]
      obtain ⟨a', h1, h2, h3⟩ := ih (i + 1) (zuA (zuA a 96 (nI i) (nI (w * σ (24 + i) / all))) 97 (nI i) (nI (w * σ (24 + i) % all))) (by omega) hR2 (fun q hq => by
        by_cases e : q = i
        · rw [e, if_pos (by omega), if_pos (by omega), hB, hRr]
          exact ⟨er, zuA_eq⟩
        · rw [zuA_ni (nI_ne (by omega) (by omega) e), zuA_ni (nI_ne (by omega) (by omega) e), zuA_ni (nI_ne (by omega) (by omega) e), zuA_ni (nI_ne (by omega) (by omega) e)]
          have := hA q hq
          by_cases h8 : q < i
          · rw [if_pos h8, if_pos h8] at this
            rw [if_pos (by omega), if_pos (by omega)]
            exact this
          · rw [if_neg h8, if_neg h8] at this
            rw [if_neg (by omega), if_neg (by omega)]
            exact this)
      refine ⟨a', ?_, h2, fun k k1 k2 => by rw [h3 k k1 k2, zuA_nk k2, zuA_nk k1]⟩
      rw [← h1, q124_72, shT_s, hB]
      simp only [q124_0, q124_1, q124_2, q124_3, q124_5, q124_7, q124_8, q124_11, q124_12, q124_13, q124_16, q124_17, q124_20, q124_22, q124_23, q124_24, q124_25, q124_28, q124_30, q124_31, q124_32, q124_33, q124_35, q124_36, q124_37, q124_38, q124_39, q124_42, q124_43, q124_44, q124_47, q124_49, q124_51, q124_52, q124_53, q124_54, q124_55, q124_58, q124_61, q124_62, q124_65, q124_66, q124_67, q124_69, q124_70, q124_74, q124_75, q124_78, q124_79, q124_80, q124_83, q124_84, q124_86, q124_87, q124_88, q124_89, q124_92, q124_95, q124_96, q124_99, q124_101, q124_102, q124_103, q124_106, q124_108, q124_110, q124_111, q124_112, q124_113, q124_114, q124_115, q124_116, q124_117, q124_120, q124_122, q124_123, q124_124, q124_127, q124_129, q124_131, q124_132, q124_133, q124_134, q124_135, q124_136, q124_137, q124_139, q124_140, q124_143, q124_145, q124_146, q124_147, q124_149, q124_152, q124_157, q124_160, q124_161, q124_163, q124_164, q124_166, q124_168, q124_169, q124_172, q124_173, q124_174, q124_177, q124_178, q124_181, q124_183, q124_184, q124_185, q124_188, q124_190, q124_191, q124_194, q124_196, q124_198, q124_201, q124_204, q124_205, q124_208, q124_210, q124_211, q124_212, q124_213, q124_214, q124_215, q124_216, q124_219, q124_221, q124_222, q124_223, q124_226, q124_229, ix0, e0, c1, ix1, ix2, ix24, hb, eq_true hs, e24, e24', z0, e1, e2, e3, er, e4, ne_eq, zCall_some, Option.toList, List.cons_append, List.nil_append, zb_0, zb_1, zem, z01, z11, nI_add, ↓reduceIte, not_true_eq_false, not_false_eq_true, n0T, n1F, n11T, true_or, or_true, false_or]
    · have hB : shB σ w S all i = 0 := by unfold shB; rw [if_neg hs]
      have hRr : shR σ w S all i = -1 := by unfold shR; rw [if_neg hs]
      obtain ⟨a', h1, h2, h3⟩ := ih (i + 1) a (by omega) hR (fun q hq => by
        have := hA q hq
        by_cases h8 : q < i
        · rw [if_pos h8, if_pos h8] at this
          rw [if_pos (by omega), if_pos (by omega)]
          exact this
        · rw [if_neg h8, if_neg h8] at this
          by_cases e : q = i
          · rw [if_pos (by omega), if_pos (by omega), e, hB, hRr]
            rw [e] at this
            exact this
          · rw [if_neg (by omega), if_neg (by omega)]
            exact this)
      refine ⟨a', ?_, h2, h3⟩
      have eT : shT σ w S all (i + 1) = shT σ w S all i := by rw [shT_s, hB]; rfl
      rw [← h1, q124_72, eT]
      simp only [q124_0, q124_1, q124_2, q124_3, q124_5, q124_7, q124_8, q124_11, q124_12, q124_13, q124_16, q124_17, q124_20, q124_22, q124_23, q124_24, q124_25, q124_28, q124_30, q124_31, q124_32, q124_33, q124_35, q124_36, q124_37, q124_38, q124_39, q124_42, q124_43, q124_44, q124_47, q124_49, q124_51, q124_52, q124_53, q124_54, q124_55, q124_58, q124_61, q124_62, q124_65, q124_66, q124_67, q124_69, q124_70, q124_74, q124_75, q124_78, q124_79, q124_80, q124_83, q124_84, q124_86, q124_87, q124_88, q124_89, q124_92, q124_95, q124_96, q124_99, q124_101, q124_102, q124_103, q124_106, q124_108, q124_110, q124_111, q124_112, q124_113, q124_114, q124_115, q124_116, q124_117, q124_120, q124_122, q124_123, q124_124, q124_127, q124_129, q124_131, q124_132, q124_133, q124_134, q124_135, q124_136, q124_137, q124_139, q124_140, q124_143, q124_145, q124_146, q124_147, q124_149, q124_152, q124_157, q124_160, q124_161, q124_163, q124_164, q124_166, q124_168, q124_169, q124_172, q124_173, q124_174, q124_177, q124_178, q124_181, q124_183, q124_184, q124_185, q124_188, q124_190, q124_191, q124_194, q124_196, q124_198, q124_201, q124_204, q124_205, q124_208, q124_210, q124_211, q124_212, q124_213, q124_214, q124_215, q124_216, q124_219, q124_221, q124_222, q124_223, q124_226, q124_229, ix0, e0, c1, hb, eq_false hs, zCall_some, Option.toList, List.cons_append, List.nil_append, zb_0, zb_1, zem, z01, z11, nI_add, ↓reduceIte, not_true_eq_false, not_false_eq_true, n0T, n1F, n11T, true_or, or_true, false_or]
theorem sr_in {sc : Int32 × (Int32 → Int32)} {F : zCF} {f : zF} {a : zA} {j : zJ} {R : Nat → Int32} {σ : Nat → Nat} {v1 v2 v3 v4 : Value} (hR : MR σ a) (h8 : σ 0 ≤ 8) (hA : ∀ g, g < σ 0 → a 97 (nI g) = R g) : ∀ (m g : Nat), g + 1 + m = σ 0 →
    rn sc F 124 166 [.ref 85, v1, v2, v3, v4, .int (nI (bsF R g)), .int (nI (g + 1))] [] f a j = rn sc F 124 204 [.ref 85, v1, v2, v3, v4, .int (nI (bsF R (σ 0 - 1))), .int (nI (σ 0))] [] f a j := by
  have ix0 : zIx 21 86 (nI 0) := ix86 (by omega)
  have e0 := hR 0 (by omega)
  intro m
  induction m with
  | zero =>
    intro g hg
    have c1 : nI (σ 0) ≤ nI (g + 1) := nI_le (by omega) (by omega)
    have hs : σ 0 - 1 = g := by omega
    have hs2 : g + 1 = σ 0 := by omega
    rw [hs, hs2]
    rw [hs2] at c1
    simp only [q124_166, q124_168, q124_169, q124_172, q124_173, q124_174, ix0, e0, c1, zCall_some, Option.toList, List.cons_append, List.nil_append, zb_0, zb_1, zem, z01, z11, nI_add, ↓reduceIte, not_true_eq_false, not_false_eq_true, n0T, n1F, n11T, true_or, or_true, false_or]
  | succ m ih =>
    intro g hg
    have hb := bsF_le R g
    have c1 : ¬ nI (σ 0) ≤ nI (g + 1) := nI_ge (by omega) (by omega)
    have ix1 : zIx 21 97 (nI (g + 1)) := ix97 (by omega)
    have ix2 : zIx 21 97 (nI (bsF R g)) := ix97 (by omega)
    have e1 : bsF R (g + 1) = if R (bsF R g) < R (g + 1) then g + 1 else bsF R g := rfl
    rw [← ih (g + 1) (by omega), q124_166, e1]
    by_cases h : R (bsF R g) < R (g + 1)
    · have h9 : ¬ R (g + 1) ≤ R (bsF R g) := Int32.not_le.mpr h
      simp only [q124_0, q124_1, q124_2, q124_3, q124_5, q124_7, q124_8, q124_11, q124_12, q124_13, q124_16, q124_17, q124_20, q124_22, q124_23, q124_24, q124_25, q124_28, q124_30, q124_31, q124_32, q124_33, q124_35, q124_36, q124_37, q124_38, q124_39, q124_42, q124_43, q124_44, q124_47, q124_49, q124_51, q124_52, q124_53, q124_54, q124_55, q124_58, q124_61, q124_62, q124_65, q124_66, q124_67, q124_69, q124_70, q124_72, q124_74, q124_75, q124_78, q124_79, q124_80, q124_83, q124_84, q124_86, q124_87, q124_88, q124_89, q124_92, q124_95, q124_96, q124_99, q124_101, q124_102, q124_103, q124_106, q124_108, q124_110, q124_111, q124_112, q124_113, q124_114, q124_115, q124_116, q124_117, q124_120, q124_122, q124_123, q124_124, q124_127, q124_129, q124_131, q124_132, q124_133, q124_134, q124_135, q124_136, q124_137, q124_139, q124_140, q124_143, q124_145, q124_146, q124_147, q124_149, q124_152, q124_155, q124_157, q124_160, q124_161, q124_163, q124_164, q124_168, q124_169, q124_172, q124_173, q124_174, q124_177, q124_178, q124_181, q124_183, q124_184, q124_185, q124_188, q124_190, q124_191, q124_194, q124_196, q124_198, q124_201, q124_205, q124_208, q124_210, q124_211, q124_212, q124_213, q124_214, q124_215, q124_216, q124_219, q124_221, q124_222, q124_223, q124_226, q124_229, ix0, e0, c1, ix1, ix2, hA (g + 1) (by omega), hA (bsF R g) (by omega), h, h9, zCall_some, Option.toList, List.cons_append, List.nil_append, zb_0, zb_1, zem, z01, z11, nI_add, ↓reduceIte, not_true_eq_false, not_false_eq_true, n0T, n1F, n11T, true_or, or_true, false_or]
    · have h9 : R (g + 1) ≤ R (bsF R g) := Int32.not_lt.mp h
      simp only [q124_0, q124_1, q124_2, q124_3, q124_5, q124_7, q124_8, q124_11, q124_12, q124_13, q124_16, q124_17, q124_20, q124_22, q124_23, q124_24, q124_25, q124_28, q124_30, q124_31, q124_32, q124_33, q124_35, q124_36, q124_37, q124_38, q124_39, q124_42, q124_43, q124_44, q124_47, q124_49, q124_51, q124_52, q124_53, q124_54, q124_55, q124_58, q124_61, q124_62, q124_65, q124_66, q124_67, q124_69, q124_70, q124_72, q124_74, q124_75, q124_78, q124_79, q124_80, q124_83, q124_84, q124_86, q124_87, q124_88, q124_89, q124_92, q124_95, q124_96, q124_99, q124_101, q124_102, q124_103, q124_106, q124_108, q124_110, q124_111, q124_112, q124_113, q124_114, q124_115, q124_116, q124_117, q124_120, q124_122, q124_123, q124_124, q124_127, q124_129, q124_131, q124_132, q124_133, q124_134, q124_135, q124_136, q124_137, q124_139, q124_140, q124_143, q124_145, q124_146, q124_147, q124_149, q124_152, q124_155, q124_157, q124_160, q124_161, q124_163, q124_164, q124_168, q124_169, q124_172, q124_173, q124_174, q124_177, q124_178, q124_181, q124_183, q124_184, q124_185, q124_188, q124_190, q124_191, q124_194, q124_196, q124_198, q124_201, q124_205, q124_208, q124_210, q124_211, q124_212, q124_213, q124_214, q124_215, q124_216, q124_219, q124_221, q124_222, q124_223, q124_226, q124_229, ix0, e0, c1, ix1, ix2, hA (g + 1) (by omega), hA (bsF R g) (by omega), h, h9, zCall_some, Option.toList, List.cons_append, List.nil_append, zb_0, zb_1, zem, z01, z11, nI_add, ↓reduceIte, not_true_eq_false, not_false_eq_true, n0T, n1F, n11T, true_or, or_true, false_or]
theorem sr_out {sc : Int32 × (Int32 → Int32)} {F : zCF} {f : zF} {j : zJ} {R : Nat → Int32} {P : Nat → Nat} {ov : Nat} {σ : Nat → Nat} {v1 v2 v3 : Value} (h8 : σ 0 ≤ 8) (h1 : 0 < σ 0) (ho : ov ≤ 8) : ∀ (m i : Nat) (a : zA) (v5 v6 : Value), i + m = ov → MR σ a → (∀ g, g < σ 0 → a 97 (nI g) = gvR R (σ 0) i g) → (∀ g, g < σ 0 → a 96 (nI g) = nI (gvP P R (σ 0) i g)) →
    ∃ a' : zA, rn sc F 124 155 [.ref 85, v1, v2, v3, .int (nI (ov - i)), v5, v6] [] f a j = some (none, f, a', j) ∧ (∀ g, g < σ 0 → a' 96 (nI g) = nI (gvP P R (σ 0) ov g)) ∧ ∀ k, k ≠ 96 → k ≠ 97 → a' k = a k := by
  intro m
  induction m with
  | zero =>
    intro i a v5 v6 hi hR hA hB
    have e : i = ov := by omega
    subst e
    have c1 : nI (i - i) ≤ 0 := by rw [Nat.sub_self]; decide
    refine ⟨a, ?_, hB, fun _ _ _ => rfl⟩
    simp only [q124_155, q124_157, q124_229, c1, zCall_some, Option.toList, List.cons_append, List.nil_append, zb_0, zb_1, zem, z01, z11, nI_add, ↓reduceIte, not_true_eq_false, not_false_eq_true, n0T, n1F, n11T, true_or, or_true, false_or]
  | succ m ih =>
    intro i a v5 v6 hi hR hA hB
    have c1 : ¬ nI (ov - i) ≤ 0 := by
      have := nI_ge (a := 0) (b := ov - i) (by omega) (by omega)
      exact this
    have hb := bsF_le (gvR R (σ 0) i) (σ 0 - 1)
    have hin := sr_in (sc := sc) (F := F) (f := f) (j := j) (v1 := v1) (v2 := v2) (v3 := v3) (v4 := .int (nI (ov - i))) hR h8 hA (σ 0 - 1) 0 (by omega)
    have ix1 : zIx 21 96 (nI (bsF (gvR R (σ 0) i) (σ 0 - 1))) := ix96 (by omega)
    have ix2 : zIx 21 97 (nI (bsF (gvR R (σ 0) i) (σ 0 - 1))) := ix97 (by omega)
    have em : nI (ov - i) + (-1) = nI (ov - (i + 1)) := by
      rw [show ov - i = (ov - (i + 1)) + 1 by omega]
      exact nI_m1 _
    obtain ⟨a', g1, g2, g3⟩ := ih (i + 1) (zuA (zuA a 96 (nI (bsF (gvR R (σ 0) i) (σ 0 - 1))) (nI (gvP P R (σ 0) i (bsF (gvR R (σ 0) i) (σ 0 - 1)) + 1))) 97 (nI (bsF (gvR R (σ 0) i) (σ 0 - 1))) (-1)) (.int (nI (bsF (gvR R (σ 0) i) (σ 0 - 1)))) (.int (nI (σ 0))) (by omega)
      (hR.of (by rw [zuA_nk (by omega), zuA_nk (by omega)]))
      (fun g hg => by
        rw [gvR_s]
        by_cases e : g = bsF (gvR R (σ 0) i) (σ 0 - 1)
        · rw [if_pos e, ← e]; exact zuA_eq
        · rw [if_neg e, zuA_ni (nI_ne (by omega) (by omega) e), zuA_nk (by omega)]; exact hA g hg)
      (fun g hg => by
        rw [gvP_s, zuA_nk (by omega)]
        by_cases e : g = bsF (gvR R (σ 0) i) (σ 0 - 1)
        · rw [if_pos e, ← e]; exact zuA_eq
        · rw [if_neg e, zuA_ni (nI_ne (by omega) (by omega) e)]; exact hB g hg)
    refine ⟨a', ?_, g2, fun k k1 k2 => by rw [g3 k k1 k2, zuA_nk k2, zuA_nk k1]⟩
    rw [← g1, q124_155]
    simp only [q124_157, q124_160, q124_161, q124_163, q124_164, c1, zCall_some, Option.toList, List.cons_append, List.nil_append, zb_0, zb_1, zem, z01, z11, nI_add, ↓reduceIte, not_true_eq_false, not_false_eq_true, n0T, n1F, n11T, true_or, or_true, false_or]
    refine Eq.trans (show _ = _ from hin) ?_
    simp only [q124_0, q124_1, q124_2, q124_3, q124_5, q124_7, q124_8, q124_11, q124_12, q124_13, q124_16, q124_17, q124_20, q124_22, q124_23, q124_24, q124_25, q124_28, q124_30, q124_31, q124_32, q124_33, q124_35, q124_36, q124_37, q124_38, q124_39, q124_42, q124_43, q124_44, q124_47, q124_49, q124_51, q124_52, q124_53, q124_54, q124_55, q124_58, q124_61, q124_62, q124_65, q124_66, q124_67, q124_69, q124_70, q124_72, q124_74, q124_75, q124_78, q124_79, q124_80, q124_83, q124_84, q124_86, q124_87, q124_88, q124_89, q124_92, q124_95, q124_96, q124_99, q124_101, q124_102, q124_103, q124_106, q124_108, q124_110, q124_111, q124_112, q124_113, q124_114, q124_115, q124_116, q124_117, q124_120, q124_122, q124_123, q124_124, q124_127, q124_129, q124_131, q124_132, q124_133, q124_134, q124_135, q124_136, q124_137, q124_139, q124_140, q124_143, q124_145, q124_146, q124_147, q124_149, q124_152, q124_157, q124_160, q124_161, q124_163, q124_164, q124_168, q124_169, q124_172, q124_173, q124_174, q124_177, q124_178, q124_181, q124_183, q124_184, q124_185, q124_188, q124_190, q124_191, q124_194, q124_196, q124_198, q124_201, q124_204, q124_205, q124_208, q124_210, q124_211, q124_212, q124_213, q124_214, q124_215, q124_216, q124_219, q124_221, q124_222, q124_223, q124_226, q124_229, ix1, ix2, hB (bsF (gvR R (σ 0) i) (σ 0 - 1)) (by omega), em, zCall_some, Option.toList, List.cons_append, List.nil_append, zb_0, zb_1, zem, z01, z11, nI_add, ↓reduceIte, not_true_eq_false, not_false_eq_true, n0T, n1F, n11T, true_or, or_true, false_or]
theorem m_shares {sc : Int32 × (Int32 → Int32)} {f : zF} {a : zA} {j : zJ} {d w : Nat} {σ : Nat → Nat} {S : Nat → Bool} {x : Int32} (hR : MR σ a) (hV : VR σ) (hw : w ≤ 2 ^ 24) (hS : ∀ g, g < 8 → bt x g = S g) :
    ∃ a' : zA, cf sc (d + 1) 124 [.ref 85, .int (nI w), .int x] f a j = some (none, f, a', j) ∧ (∀ g, g < σ 0 → a' 96 (nI g) = nI (shr σ w S g)) ∧ ∀ k, k ≠ 96 → k ≠ 97 → a' k = a k := by
  have hn := hV.1
  have hall := shA_le hV (S := S) (σ 0) (Nat.le_refl _)
  obtain ⟨a1, h1, h2, h3⟩ := sr_1 (sc := sc) (F := cf sc d) (f := f) (j := j) (v1 := .int (nI w)) (v5 := .null) (v6 := .null) hV hS (σ 0) 0 a (by omega) hR (fun q hq => by omega)
  have hR1 : MR σ a1 := hR.of (h3 86 (by omega) (by omega))
  rw [en124]
  by_cases hz : shA σ S (σ 0) = 0
  · have c1 : nI (shA σ S (σ 0)) = 0 := by rw [hz]; rfl
    refine ⟨a1, ?_, fun g hg => ?_, h3⟩
    · simp only [q124_0, q124_1, q124_2, q124_3]
      refine Eq.trans (show _ = _ from h1) ?_
      simp only [q124_61, q124_62, q124_65, c1, zCall_some, Option.toList, List.cons_append, List.nil_append, zb_0, zb_1, zem, z01, z11, nI_add, ↓reduceIte, not_true_eq_false, not_false_eq_true, n0T, n1F, n11T, true_or, or_true, false_or]
    · rw [(h2 g hg).1]
      unfold shr
      rw [if_pos hz]
  · have ha0 : 0 < shA σ S (σ 0) := by omega
    have hn0 : 0 < σ 0 := by
      rcases Nat.eq_zero_or_pos (σ 0) with q | q
      · rw [q] at hz; exact absurd rfl hz
      · exact q
    have c1 : ¬ nI (shA σ S (σ 0)) = 0 := nI_ne0 ha0 (by omega)
    obtain ⟨a2, g1, g2, g3⟩ := sr_2 (sc := sc) (F := cf sc d) (f := f) (j := j) (w := w) (v6 := .null) hV hw hS rfl ha0 (σ 0) 0 a1 (by omega) hR1 (fun q hq => by rw [if_neg (by omega), if_neg (by omega)]; exact h2 q hq)
    have hR2 : MR σ a2 := hR1.of (g3 86 (by omega) (by omega))
    have hov8 := sh_over (m := w) ha0
    obtain ⟨a3, k1, k2, k3⟩ := sr_out (sc := sc) (F := cf sc d) (f := f) (j := j) (ov := w - shT σ w S (shA σ S (σ 0)) (σ 0)) (R := shR σ w S (shA σ S (σ 0))) (P := shB σ w S (shA σ S (σ 0))) (v1 := .int (nI w)) (v2 := .int x) (v3 := .int (nI (shA σ S (σ 0)))) hn hn0 (by omega) (w - shT σ w S (shA σ S (σ 0)) (σ 0)) 0 a2 (.int (nI (σ 0))) .null (by omega) hR2 (fun g hg => (g2 g hg).2) (fun g hg => (g2 g hg).1)
    refine ⟨a3, ?_, fun g hg => ?_, fun k q1 q2 => by rw [k3 k q1 q2, g3 k q1 q2, h3 k q1 q2]⟩
    · simp only [q124_0, q124_1, q124_2, q124_3]
      refine Eq.trans (show _ = _ from h1) ?_
      simp only [q124_61, q124_62, q124_66, q124_67, q124_69, q124_70, c1, zCall_some, Option.toList, List.cons_append, List.nil_append, zb_0, zb_1, zem, z01, z11, nI_add, ↓reduceIte, not_true_eq_false, not_false_eq_true, n0T, n1F, n11T, true_or, or_true, false_or]
      refine Eq.trans (show _ = _ from g1) ?_
      exact k1
    · rw [k2 g hg]
      unfold shr
      rw [if_neg hz]
theorem m_allFields {sc : Int32 × (Int32 → Int32)} {f : zF} {a : zA} {j : zJ} {d : Nat} {σ : Nat → Nat} (hR : MR σ a) : cf sc (d + 1) 125 [.ref 85] f a j = some (some (.int ((nI 1 <<< (nI (σ 0) &&& 31)) - nI 1)), f, a, j) := by
  have ix0 : zIx 21 86 (nI 0) := ix86 (by omega)
  have e0 := hR 0 (by omega)
  rw [en125]
  simp only [q125_0, q125_1, q125_2, q125_5, q125_6, q125_7, q125_8, q125_9, q125_10, ix0, e0, zCall_some, Option.toList, List.cons_append, List.nil_append, zb_0, zb_1, zem, z01, z11, nI_add, ↓reduceIte, not_true_eq_false, not_false_eq_true, n0T, n1F, n11T, true_or, or_true, false_or]
theorem btS_s (P : Nat → Bool) (g : Nat) : btS P (g + 1) = btS P g ||| (if P g = true then nI 1 <<< (nI g &&& 31) else nI 0) := rfl
theorem m_present {sc : Int32 × (Int32 → Int32)} {f : zF} {a : zA} {j : zJ} {d : Nat} {σ : Nat → Nat} {v : Int32} {P : Nat → Bool} (hR : MR σ a) (hV : VR σ) (hP : ∀ g, g < σ 0 → P g = (decide (σ (32 + g) ≠ 1) && decide (v = -1 ∨ nI (σ (16 + g)) = v))) : cf sc (d + 2) 126 [.ref 85, .int v] f a j = some (some (.int (btS P (σ 0))), f, a, j) := by
  have hn := hV.1
  have ix0 : zIx 21 86 (nI 0) := ix86 (by omega)
  have e0 := hR 0 (by omega)
  have key := zLoop (n := σ 0) (g := fun i => rn sc (cf sc (d + 1)) 126 4 [.ref 85, .int v, .int (btS P i), .int (nI i)] [] f a j) (by
    intro i hi
    have c1 : ¬ nI (σ 0) ≤ nI i := nI_ge hi (by omega)
    have hA := m_isAwayR (sc := sc) (d := d) (f := f) (j := j) hR (show i < 8 by omega) (hV.2.2.1 i hi).2.2
    have ix16 : zIx 21 86 (nI (16 + i)) := ix86 (by omega)
    have e16 := hR (16 + i) (by omega)
    rw [q126_4, btS_s, hP i hi]
    by_cases w1 : σ (32 + i) = 1
    · have hp : ¬ (decide (σ (32 + i) ≠ 1) && decide (v = -1 ∨ nI (σ (16 + i)) = v)) = true := by simp [w1]
      rw [if_neg hp, or_z]
      simp only [q126_0, q126_1, q126_2, q126_3, q126_5, q126_6, q126_9, q126_10, q126_11, q126_14, q126_15, q126_16, q126_19, q126_22, q126_23, q126_24, q126_27, q126_28, q126_31, q126_33, q126_34, q126_35, q126_36, q126_37, q126_40, q126_41, q126_42, q126_43, q126_44, q126_45, q126_46, q126_49, q126_52, q126_53, ix0, e0, c1, hA, eq_true w1, zCall_some, Option.toList, List.cons_append, List.nil_append, zb_0, zb_1, zem, z01, z11, nI_add, ↓reduceIte, not_true_eq_false, not_false_eq_true, n0T, n1F, n11T, true_or, or_true, false_or]
    · by_cases w2 : v = -1
      · have hp : (decide (σ (32 + i) ≠ 1) && decide (v = -1 ∨ nI (σ (16 + i)) = v)) = true := by simp [w1, w2]
        rw [if_pos hp]
        simp only [q126_0, q126_1, q126_2, q126_3, q126_5, q126_6, q126_9, q126_10, q126_11, q126_14, q126_15, q126_16, q126_19, q126_22, q126_23, q126_24, q126_27, q126_28, q126_31, q126_33, q126_34, q126_35, q126_36, q126_37, q126_40, q126_41, q126_42, q126_43, q126_44, q126_45, q126_46, q126_49, q126_52, q126_53, ix0, e0, c1, hA, eq_false w1, eq_true w2, zCall_some, Option.toList, List.cons_append, List.nil_append, zb_0, zb_1, zem, z01, z11, nI_add, ↓reduceIte, not_true_eq_false, not_false_eq_true, n0T, n1F, n11T, true_or, or_true, false_or]
      · by_cases w3 : nI (σ (16 + i)) = v
        · have hp : (decide (σ (32 + i) ≠ 1) && decide (v = -1 ∨ nI (σ (16 + i)) = v)) = true := by simp [w1, w3]
          rw [if_pos hp]
          simp only [q126_0, q126_1, q126_2, q126_3, q126_5, q126_6, q126_9, q126_10, q126_11, q126_14, q126_15, q126_16, q126_19, q126_22, q126_23, q126_24, q126_27, q126_28, q126_31, q126_33, q126_34, q126_35, q126_36, q126_37, q126_40, q126_41, q126_42, q126_43, q126_44, q126_45, q126_46, q126_49, q126_52, q126_53, ix0, e0, c1, hA, eq_false w1, eq_false w2, ix16, e16, eq_true w3, zCall_some, Option.toList, List.cons_append, List.nil_append, zb_0, zb_1, zem, z01, z11, nI_add, ↓reduceIte, not_true_eq_false, not_false_eq_true, n0T, n1F, n11T, true_or, or_true, false_or]
        · have hp : ¬ (decide (σ (32 + i) ≠ 1) && decide (v = -1 ∨ nI (σ (16 + i)) = v)) = true := by simp [w2, w3]
          rw [if_neg hp, or_z]
          simp only [q126_0, q126_1, q126_2, q126_3, q126_5, q126_6, q126_9, q126_10, q126_11, q126_14, q126_15, q126_16, q126_19, q126_22, q126_23, q126_24, q126_27, q126_28, q126_31, q126_33, q126_34, q126_35, q126_36, q126_37, q126_40, q126_41, q126_42, q126_43, q126_44, q126_45, q126_46, q126_49, q126_52, q126_53, ix0, e0, c1, hA, eq_false w1, eq_false w2, ix16, e16, eq_false w3, zCall_some, Option.toList, List.cons_append, List.nil_append, zb_0, zb_1, zem, z01, z11, nI_add, ↓reduceIte, not_true_eq_false, not_false_eq_true, n0T, n1F, n11T, true_or, or_true, false_or])
  rw [en126, q126_0, q126_1, q126_2, q126_3]
  refine Eq.trans (show _ = _ from key) ?_
  have c1 : nI (σ 0) ≤ nI (σ 0) := nI_le (Nat.le_refl _) (by omega)
  simp only [q126_4, q126_5, q126_6, q126_9, q126_10, q126_11, q126_52, q126_53, ix0, e0, c1, zCall_some, Option.toList, List.cons_append, List.nil_append, zb_0, zb_1, zem, z01, z11, nI_add, ↓reduceIte, not_true_eq_false, not_false_eq_true, n0T, n1F, n11T, true_or, or_true, false_or]
theorem m_givesOn {sc : Int32 × (Int32 → Int32)} {f : zF} {a : zA} {j : zJ} {d w i : Nat} {σ : Nat → Nat} (hR : MR σ a) (hV : VR σ) (hi : i < σ 0) (hA : ∀ g, g < σ 0 → a 93 (nI g) = nI (hvA σ w i g)) :
    ∃ a' : zA, cf sc (d + 3) 127 [.ref 85, .int (nI i)] f a j = some (none, f, a', j) ∧ (∀ g, g < σ 0 → a' 93 (nI g) = nI ((if g = i then 0 else hvA σ w i g) + shr σ (hvA σ w i i) (toB σ i) g)) ∧ ∀ k, k ≠ 93 → k ≠ 96 → k ≠ 97 → a' k = a k := by
  have hn := hV.1
  have ix0 : zIx 21 86 (nI 0) := ix86 (by omega)
  have ix3 : zIx 21 93 (nI i) := ix93 (by omega)
  have ix16 : zIx 21 86 (nI (16 + i)) := ix86 (by omega)
  have hR1 : MR σ (zuA a 93 (nI i) (nI 0)) := hR.of (zuA_nk (by omega))
  have e16 := hR1 (16 + i) (by omega)
  have h4 := (hV.2.2.1 i hi).1
  have n1 : ¬ nI (σ (16 + i)) = -1 := by
    intro e
    have h1 := congrArg Int32.toInt e
    rw [nI_toInt (by omega)] at h1
    have h2 : (-1 : Int32).toInt = -1 := by decide
    omega
  have p1 := m_present (sc := sc) (d := d) (f := f) (j := j) (v := nI (σ (16 + i))) (P := nrB σ i) hR1 hV (fun g hg => by
    have q1 : (nI (σ (16 + g)) = nI (σ (16 + i))) = (σ (16 + g) = σ (16 + i)) := propext (nI_eq (by have := (hV.2.2.1 g hg).1; omega) (by omega))
    unfold nrB prB
    by_cases w1 : σ (32 + g) = 1 <;> by_cases w2 : σ (16 + g) = σ (16 + i) <;> simp [hg, w1, w2, n1, q1])
  have p0 := m_present (sc := sc) (d := d) (f := f) (j := j) (v := -1) (P := prB σ) hR1 hV (fun g hg => by
    unfold prB
    by_cases w1 : σ (32 + g) = 1 <;> simp [hg, w1])
  have b1 : ∀ g, g < 32 → bt (btS (nrB σ i) (σ 0)) g = nrB σ i g := by
    intro g hg
    rw [btS_bt _ _ hn g hg]
    unfold nrB prB
    by_cases q : g < σ 0 <;> simp [q]
  have b0 : ∀ g, g < 32 → bt (btS (prB σ) (σ 0)) g = prB σ g := by
    intro g hg
    rw [btS_bt _ _ hn g hg]
    unfold prB
    by_cases q : g < σ 0 <;> simp [q]
  have hz := nr_zero hV b1
  have hm : hvA σ w i i ≤ 2 ^ 24 := by have := hvA_24 hV (w := w) (i := i) (g := i) (by omega) hi; omega
  have hX : ∃ X : Int32, (∀ g, g < 8 → bt X g = toB σ i g) ∧ (if btS (nrB σ i) (σ 0) = 0 then btS (prB σ) (σ 0) else btS (nrB σ i) (σ 0)) = X := by
    refine ⟨_, fun g hg => ?_, rfl⟩
    unfold toB
    by_cases q : anB σ i (σ 0) = true
    · rw [if_pos q, if_neg (fun z => hz.mp z q)]
      exact b1 g (by omega)
    · rw [if_neg q, if_pos (hz.mpr q)]
      exact b0 g (by omega)
  obtain ⟨X, hX1, hX2⟩ := hX
  obtain ⟨a1, s1, s2, s3⟩ := m_shares (sc := sc) (d := d + 1) (f := f) (j := j) hR1 hV hm hX1
  have hR2 : MR σ a1 := hR1.of (s3 86 (by omega) (by omega))
  have key := zLoopP (n := σ 0) (g := fun s : (Nat × zA) => rn sc (cf sc (d + 2)) 127 49 [.ref 85, .int (nI i), .int (nI (hvA σ w i i)), .int (btS (nrB σ i) (σ 0)), .int (nI s.1)] [] f s.2 j) (P := fun k s => s.1 = k ∧ (∀ g, g < σ 0 → s.2 93 (nI g) = nI (if g < k then (if g = i then 0 else hvA σ w i g) + shr σ (hvA σ w i i) (toB σ i) g else (if g = i then 0 else hvA σ w i g))) ∧ ∀ q, q ≠ 93 → s.2 q = a1 q) (by
    intro k s hk hP
    obtain ⟨k', a2⟩ := s
    obtain ⟨rfl, g1, g2⟩ := hP
    dsimp only at g1 g2 hk
    have hR3 : MR σ a2 := hR2.of (g2 86 (by omega))
    have e0 := hR3 0 (by omega)
    have c1 : ¬ nI (σ 0) ≤ nI k' := nI_ge hk (by omega)
    have i93 : zIx 21 93 (nI k') := ix93 (by omega)
    have i96 : zIx 21 96 (nI k') := ix96 (by omega)
    have e1 : a2 93 (nI k') = nI (if k' = i then 0 else hvA σ w i k') := by rw [g1 k' hk, if_neg (by omega)]
    have e2 : a2 96 (nI k') = nI (shr σ (hvA σ w i i) (toB σ i) k') := by rw [g2 96 (by omega)]; exact s2 k' hk
    refine ⟨(k' + 1, zuA a2 93 (nI k') (nI ((if k' = i then 0 else hvA σ w i k') + shr σ (hvA σ w i i) (toB σ i) k'))), ⟨rfl, fun g hg => ?_, fun q hq => (zuA_nk hq).trans (g2 q hq)⟩, ?_⟩
    · dsimp only
      by_cases e : g = k'
      · rw [e, if_pos (show k' < k' + 1 by omega)]; exact zuA_eq
      · rw [zuA_ni (nI_ne (by omega) (by omega) e), g1 g hg]
        by_cases q : g < k'
        · rw [if_pos q, if_pos (show g < k' + 1 by omega)]
        · rw [if_neg q, if_neg (show ¬ g < k' + 1 by omega)]
    · dsimp only
      rw [q127_49]
      simp only [q127_0, q127_1, q127_4, q127_5, q127_6, q127_7, q127_8, q127_11, q127_12, q127_13, q127_14, q127_15, q127_16, q127_19, q127_21, q127_22, q127_23, q127_24, q127_27, q127_28, q127_29, q127_30, q127_31, q127_34, q127_35, q127_36, q127_39, q127_42, q127_43, q127_46, q127_47, q127_51, q127_52, q127_55, q127_56, q127_57, q127_60, q127_61, q127_64, q127_66, q127_67, q127_68, q127_69, q127_72, q127_74, q127_75, q127_76, q127_77, q127_80, q127_83, ix0, e0, c1, i93, i96, e1, e2, zCall_some, Option.toList, List.cons_append, List.nil_append, zb_0, zb_1, zem, z01, z11, nI_add, ↓reduceIte, not_true_eq_false, not_false_eq_true, n0T, n1F, n11T, true_or, or_true, false_or]) (0, a1) ⟨rfl, fun g hg => by
        dsimp only
        rw [if_neg (by omega), s3 93 (by omega) (by omega)]
        by_cases e : g = i
        · rw [if_pos e, e]; exact zuA_eq
        · rw [if_neg e, zuA_ni (nI_ne (by omega) (by omega) e)]; exact hA g hg, fun _ _ => rfl⟩
  obtain ⟨⟨k, a2⟩, ⟨hk, g1, g2⟩, e⟩ := key
  dsimp only at g1 g2 hk e
  rw [hk] at e
  refine ⟨a2, ?_, fun g hg => by rw [g1 g hg, if_pos hg], fun q q1 q2 q3 => by rw [g2 q q1, s3 q q2 q3, zuA_nk q1]⟩
  have hR3 : MR σ a2 := hR2.of (g2 86 (by omega))
  have e0 := hR3 0 (by omega)
  have c1 : nI (σ 0) ≤ nI (σ 0) := nI_le (Nat.le_refl _) (by omega)
  have ei := hA i hi
  have fin : rn sc (cf sc (d + 2)) 127 49 [.ref 85, .int (nI i), .int (nI (hvA σ w i i)), .int (btS (nrB σ i) (σ 0)), .int (nI 0)] [] f a1 j = some (none, f, a2, j) := by
    refine Eq.trans (show _ = _ from e) ?_
    simp only [q127_49, q127_51, q127_52, q127_55, q127_56, q127_57, q127_83, ix0, e0, c1, zCall_some, Option.toList, List.cons_append, List.nil_append, zb_0, zb_1, zem, z01, z11, nI_add, ↓reduceIte, not_true_eq_false, not_false_eq_true, n0T, n1F, n11T, true_or, or_true, false_or]
  rw [en127]
  by_cases hb : btS (nrB σ i) (σ 0) = 0
  · rw [if_pos hb] at hX2
    subst hX2
    simp only [q127_0, q127_1, q127_4, q127_5, q127_6, q127_7, q127_8, q127_11, q127_12, q127_13, q127_14, q127_15, q127_16, q127_19, q127_21, q127_22, q127_23, q127_24, q127_27, q127_28, q127_29, q127_30, q127_31, q127_34, q127_35, q127_36, q127_39, q127_42, q127_43, q127_46, q127_47, q127_51, q127_52, q127_55, q127_56, q127_57, q127_60, q127_61, q127_64, q127_66, q127_67, q127_68, q127_69, q127_72, q127_74, q127_75, q127_76, q127_77, q127_80, q127_83, ix3, ei, ix16, e16, p1, eq_true hb, p0, s1, fin, zCall_some, Option.toList, List.cons_append, List.nil_append, zb_0, zb_1, zem, z01, z11, nI_add, ↓reduceIte, not_true_eq_false, not_false_eq_true, n0T, n1F, n11T, true_or, or_true, false_or]
  · rw [if_neg hb] at hX2
    subst hX2
    simp only [q127_0, q127_1, q127_4, q127_5, q127_6, q127_7, q127_8, q127_11, q127_12, q127_13, q127_14, q127_15, q127_16, q127_19, q127_21, q127_22, q127_23, q127_24, q127_27, q127_28, q127_29, q127_30, q127_31, q127_34, q127_35, q127_36, q127_39, q127_42, q127_43, q127_46, q127_47, q127_51, q127_52, q127_55, q127_56, q127_57, q127_60, q127_61, q127_64, q127_66, q127_67, q127_68, q127_69, q127_72, q127_74, q127_75, q127_76, q127_77, q127_80, q127_83, ix3, ei, ix16, e16, p1, eq_false hb, s1, fin, zCall_some, Option.toList, List.cons_append, List.nil_append, zb_0, zb_1, zem, z01, z11, nI_add, ↓reduceIte, not_true_eq_false, not_false_eq_true, n0T, n1F, n11T, true_or, or_true, false_or]
theorem ha_2 {sc : Int32 × (Int32 → Int32)} {d : Nat} {f : zF} {j : zJ} {w : Nat} {σ : Nat → Nat} {v1 : Value} (hV : VR σ) : ∀ (m i : Nat) (a : zA), i + m = σ 0 → MR σ a → (∀ g, g < σ 0 → a 93 (nI g) = nI (hvA σ w i g)) →
    ∃ a' : zA, rn sc (cf sc (d + 3)) 128 44 [.ref 85, v1, .int (nI i)] [] f a j = rn sc (cf sc (d + 3)) 128 73 [.ref 85, v1, .int (nI (σ 0))] [] f a' j ∧ (∀ g, g < σ 0 → a' 93 (nI g) = nI (hvA σ w (σ 0) g)) ∧ ∀ k, k ≠ 93 → k ≠ 96 → k ≠ 97 → a' k = a k := by
  have hn := hV.1
  have ix0 : zIx 21 86 (nI 0) := ix86 (by omega)
  intro m
  induction m with
  | zero =>
    intro i a hi hR hA
    have e : i = σ 0 := by omega
    subst e
    have e0 := hR 0 (by omega)
    have c1 : nI (σ 0) ≤ nI (σ 0) := nI_le (Nat.le_refl _) (by omega)
    refine ⟨a, ?_, hA, fun _ _ _ _ => rfl⟩
    simp only [q128_44, q128_45, q128_46, q128_49, q128_50, q128_51, ix0, e0, c1, zCall_some, Option.toList, List.cons_append, List.nil_append, zb_0, zb_1, zem, z01, z11, nI_add, ↓reduceIte, not_true_eq_false, not_false_eq_true, n0T, n1F, n11T, true_or, or_true, false_or]
  | succ m ih =>
    intro i a hi hR hA
    have hin : i < σ 0 := by omega
    have e0 := hR 0 (by omega)
    have c1 : ¬ nI (σ 0) ≤ nI i := nI_ge hin (by omega)
    have hW := m_isAwayR (sc := sc) (d := d + 2) (f := f) (j := j) hR (show i < 8 by omega) (hV.2.2.1 i hin).2.2
    rw [q128_44]
    by_cases haw : σ (32 + i) = 1
    · obtain ⟨a1, g1, g2, g3⟩ := m_givesOn (sc := sc) (d := d) (f := f) (j := j) hR hV hin hA
      obtain ⟨a', h1, h2, h3⟩ := ih (i + 1) a1 (by omega) (hR.of (g3 86 (by omega) (by omega) (by omega))) (fun g hg => by rw [hvA_s, if_pos haw]; exact g2 g hg)
      refine ⟨a', ?_, h2, fun k k1 k2 k3 => by rw [h3 k k1 k2 k3, g3 k k1 k2 k3]⟩
      rw [← h1]
      simp only [q128_0, q128_1, q128_2, q128_5, q128_6, q128_9, q128_12, q128_13, q128_14, q128_15, q128_16, q128_19, q128_20, q128_21, q128_24, q128_25, q128_28, q128_29, q128_30, q128_33, q128_34, q128_35, q128_36, q128_39, q128_42, q128_43, q128_45, q128_46, q128_49, q128_50, q128_51, q128_54, q128_55, q128_56, q128_59, q128_62, q128_63, q128_64, q128_67, q128_70, q128_74, q128_75, q128_76, q128_77, q128_80, q128_81, q128_82, q128_85, q128_86, q128_89, q128_90, q128_93, q128_94, q128_97, q128_99, q128_100, q128_101, q128_102, q128_103, q128_104, q128_105, q128_108, q128_110, q128_111, q128_112, q128_113, q128_114, q128_115, q128_116, q128_119, q128_120, q128_123, q128_125, q128_126, q128_127, q128_128, q128_129, q128_130, q128_131, q128_134, q128_136, q128_137, q128_138, q128_139, q128_140, q128_141, q128_144, q128_147, ix0, e0, c1, hW, eq_true haw, g1, zCall_some, Option.toList, List.cons_append, List.nil_append, zb_0, zb_1, zem, z01, z11, nI_add, ↓reduceIte, not_true_eq_false, not_false_eq_true, n0T, n1F, n11T, true_or, or_true, false_or]
    · obtain ⟨a', h1, h2, h3⟩ := ih (i + 1) a (by omega) hR (fun g hg => by rw [hvA_s, if_neg haw]; exact hA g hg)
      refine ⟨a', ?_, h2, h3⟩
      rw [← h1]
      simp only [q128_0, q128_1, q128_2, q128_5, q128_6, q128_9, q128_12, q128_13, q128_14, q128_15, q128_16, q128_19, q128_20, q128_21, q128_24, q128_25, q128_28, q128_29, q128_30, q128_33, q128_34, q128_35, q128_36, q128_39, q128_42, q128_43, q128_45, q128_46, q128_49, q128_50, q128_51, q128_54, q128_55, q128_56, q128_59, q128_62, q128_63, q128_64, q128_67, q128_70, q128_74, q128_75, q128_76, q128_77, q128_80, q128_81, q128_82, q128_85, q128_86, q128_89, q128_90, q128_93, q128_94, q128_97, q128_99, q128_100, q128_101, q128_102, q128_103, q128_104, q128_105, q128_108, q128_110, q128_111, q128_112, q128_113, q128_114, q128_115, q128_116, q128_119, q128_120, q128_123, q128_125, q128_126, q128_127, q128_128, q128_129, q128_130, q128_131, q128_134, q128_136, q128_137, q128_138, q128_139, q128_140, q128_141, q128_144, q128_147, ix0, e0, c1, hW, eq_false haw, zCall_some, Option.toList, List.cons_append, List.nil_append, zb_0, zb_1, zem, z01, z11, nI_add, ↓reduceIte, not_true_eq_false, not_false_eq_true, n0T, n1F, n11T, true_or, or_true, false_or]
theorem ha_3 {sc : Int32 × (Int32 → Int32)} {F : zCF} {f : zF} {a : zA} {j : zJ} {w : Nat} {σ : Nat → Nat} (hR : MR σ a) (hV : VR σ) (hT : TrOK σ w) (hA : ∀ g, g < σ 0 → a 93 (nI g) = nI (hvT σ w 0 g)) :
    ∃ a' : zA, rn sc F 128 75 [.ref 85, .int (nI 1), .int (nI 0)] [] f a j = some (none, f, a', j) ∧ (∀ g, g < σ 0 → a' 93 (nI g) = nI (hvT σ w (σ 4) g)) ∧ ∀ k, k ≠ 93 → a' k = a k := by
  have hn := hV.1
  obtain ⟨h12, hT⟩ := hT
  have ix4 : zIx 21 86 (nI 4) := ix86 (by omega)
  have key := zLoopP (n := σ 4) (g := fun s : (Nat × zA) => rn sc F 128 75 [.ref 85, .int (nI 1), .int (nI s.1)] [] f s.2 j) (P := fun i s => s.1 = i ∧ (∀ g, g < σ 0 → s.2 93 (nI g) = nI (hvT σ w i g)) ∧ ∀ k, k ≠ 93 → s.2 k = a k) (by
    intro i s hi hP
    obtain ⟨i', a1⟩ := s
    obtain ⟨rfl, h1, h2⟩ := hP
    dsimp only at h1 h2 hi
    obtain ⟨p1, p2, p3⟩ := hT i' hi
    have hR1 : MR σ a1 := hR.of (h2 86 (by omega))
    have e4 := hR1 4 (by omega)
    have c1 : ¬ nI (σ 4) ≤ nI i' := nI_ge hi (by omega)
    have i40 : zIx 21 86 (nI (40 + i')) := ix86 (by omega)
    have i52 : zIx 21 86 (nI (52 + i')) := ix86 (by omega)
    have i64 : zIx 21 86 (nI (64 + i')) := ix86 (by omega)
    have e40 := hR1 (40 + i') (by omega)
    have e64 := hR1 (64 + i') (by omega)
    have hR2 : ∀ x y : Int32, MR σ (zuA a1 93 x y) := fun x y => hR1.of (zuA_nk (by omega))
    have e52 : ∀ x y : Int32, zuA a1 93 x y 86 (nI (52 + i')) = nI (σ (52 + i')) := fun x y => hR2 x y (52 + i') (by omega)
    have e64' : ∀ x y : Int32, zuA a1 93 x y 86 (nI (64 + i')) = nI (σ (64 + i')) := fun x y => hR2 x y (64 + i') (by omega)
    have ixp : zIx 21 93 (nI (σ (40 + i'))) := ix93 (by omega)
    have ixq : zIx 21 93 (nI (σ (52 + i'))) := ix93 (by omega)
    have s1 : nI (hvT σ w i' (σ (40 + i'))) - nI (σ (64 + i')) = nI (hvT σ w i' (σ (40 + i')) - σ (64 + i')) := pk_sub p3
    have q2 : zuA a1 93 (nI (σ (40 + i'))) (nI (hvT σ w i' (σ (40 + i')) - σ (64 + i'))) 93 (nI (σ (52 + i'))) = nI (if σ (52 + i') = σ (40 + i') then hvT σ w i' (σ (40 + i')) - σ (64 + i') else hvT σ w i' (σ (52 + i'))) := by
      by_cases e : σ (52 + i') = σ (40 + i')
      · rw [if_pos e, e]; exact zuA_eq
      · rw [if_neg e, zuA_ni (nI_ne (by omega) (by omega) e)]; exact h1 _ p2
    refine ⟨(i' + 1, zuA (zuA a1 93 (nI (σ (40 + i'))) (nI (hvT σ w i' (σ (40 + i')) - σ (64 + i')))) 93 (nI (σ (52 + i'))) (nI ((if σ (52 + i') = σ (40 + i') then hvT σ w i' (σ (40 + i')) - σ (64 + i') else hvT σ w i' (σ (52 + i'))) + σ (64 + i')))), ⟨rfl, fun g hg => ?_, fun k hk => (zuA_nk hk).trans ((zuA_nk hk).trans (h2 k hk))⟩, ?_⟩
    · show zuA _ 93 _ _ 93 (nI g) = nI (hvM (hvT σ w i') (σ (40 + i')) (σ (52 + i')) (σ (64 + i')) g)
      unfold hvM
      by_cases e : g = σ (52 + i')
      · rw [if_pos e, e]; exact zuA_eq
      · rw [if_neg e, zuA_ni (nI_ne (by omega) (by omega) e)]
        by_cases e' : g = σ (40 + i')
        · rw [if_pos e', e']; exact zuA_eq
        · rw [if_neg e', zuA_ni (nI_ne (by omega) (by omega) e')]; exact h1 g hg
    · dsimp only
      rw [q128_75]
      simp only [q128_0, q128_1, q128_2, q128_5, q128_6, q128_9, q128_12, q128_13, q128_14, q128_15, q128_16, q128_19, q128_20, q128_21, q128_24, q128_25, q128_28, q128_29, q128_30, q128_33, q128_34, q128_35, q128_36, q128_39, q128_42, q128_43, q128_44, q128_45, q128_46, q128_49, q128_50, q128_51, q128_54, q128_55, q128_56, q128_59, q128_62, q128_63, q128_64, q128_67, q128_70, q128_73, q128_74, q128_76, q128_77, q128_80, q128_81, q128_82, q128_85, q128_86, q128_89, q128_90, q128_93, q128_94, q128_97, q128_99, q128_100, q128_101, q128_102, q128_103, q128_104, q128_105, q128_108, q128_110, q128_111, q128_112, q128_113, q128_114, q128_115, q128_116, q128_119, q128_120, q128_123, q128_125, q128_126, q128_127, q128_128, q128_129, q128_130, q128_131, q128_134, q128_136, q128_137, q128_138, q128_139, q128_140, q128_141, q128_144, q128_147, ix4, e4, c1, i40, i52, i64, e40, e64, e52, e64', ixp, ixq, h1 _ p1, s1, q2, n1F, zCall_some, Option.toList, List.cons_append, List.nil_append, zb_0, zb_1, zem, z01, z11, nI_add, ↓reduceIte, not_true_eq_false, not_false_eq_true, n0T, n1F, n11T, true_or, or_true, false_or]) (0, a) ⟨rfl, hA, fun _ _ => rfl⟩
  obtain ⟨⟨i, a'⟩, ⟨hi, h1, h2⟩, e⟩ := key
  dsimp only at h1 h2 e hi
  rw [hi] at e
  refine ⟨a', ?_, h1, h2⟩
  have e4 := (hR.of (h2 86 (by omega))) 4 (by omega)
  have c1 : nI (σ 4) ≤ nI (σ 4) := nI_le (Nat.le_refl _) (by omega)
  refine Eq.trans (show _ = _ from e) ?_
  simp only [q128_75, q128_76, q128_77, q128_80, q128_81, q128_82, q128_147, ix4, e4, c1, zCall_some, Option.toList, List.cons_append, List.nil_append, zb_0, zb_1, zem, z01, z11, nI_add, ↓reduceIte, not_true_eq_false, not_false_eq_true, n0T, n1F, n11T, true_or, or_true, false_or]
theorem m_haveAll {sc : Int32 × (Int32 → Int32)} {f : zF} {a : zA} {j : zJ} {d w : Nat} {σ : Nat → Nat} {tr : Bool} (hR : MR σ a) (hV : VR σ) (hl : f 85 14 = nI (leftOf σ w)) (hT : tr = true → TrOK σ w) :
    ∃ a' : zA, cf sc (d + 4) 128 [.ref 85, .int (nI (if tr = true then 1 else 0))] f a j = some (none, f, a', j) ∧ (∀ g, g < σ 0 → a' 93 (nI g) = nI (hvOf σ w tr g)) ∧ ∀ k, k ≠ 93 → k ≠ 96 → k ≠ 97 → a' k = a k := by
  have hn := hV.1
  have ix0 : zIx 21 86 (nI 0) := ix86 (by omega)
  have hlf : leftOf σ w ≤ 97 := by unfold leftOf; have := hV.2.1; omega
  have hAF := m_allFields (sc := sc) (d := d + 2) (f := f) (j := j) hR
  obtain ⟨a1, s1, s2, s3⟩ := m_shares (sc := sc) (d := d + 2) (f := f) (j := j) (w := leftOf σ w) (S := alB σ) (x := (nI 1 <<< (nI (σ 0) &&& 31)) - nI 1) hR hV (by omega) (fun g hg => by rw [bt_all _ hn g (by omega)]; rfl)
  have hR1 : MR σ a1 := hR.of (s3 86 (by omega) (by omega))
  have key := zLoopP (n := σ 0) (g := fun s : (Nat × zA) => rn sc (cf sc (d + 3)) 128 14 [.ref 85, .int (nI (if tr = true then 1 else 0)), .int (nI s.1)] [] f s.2 j) (P := fun k s => s.1 = k ∧ (∀ g, g < k → s.2 93 (nI g) = nI (hvA σ w 0 g)) ∧ ∀ q, q ≠ 93 → s.2 q = a1 q) (by
    intro k s hk hP
    obtain ⟨k', a2⟩ := s
    obtain ⟨rfl, g1, g2⟩ := hP
    dsimp only at g1 g2 hk
    have e0 := (hR1.of (g2 86 (by omega))) 0 (by omega)
    have c1 : ¬ nI (σ 0) ≤ nI k' := nI_ge hk (by omega)
    have i93 : zIx 21 93 (nI k') := ix93 (by omega)
    have i96 : zIx 21 96 (nI k') := ix96 (by omega)
    have e2 : a2 96 (nI k') = nI (hvA σ w 0 k') := by rw [g2 96 (by omega)]; exact s2 k' hk
    refine ⟨(k' + 1, zuA a2 93 (nI k') (nI (hvA σ w 0 k'))), ⟨rfl, fun g hg => ?_, fun q hq => (zuA_nk hq).trans (g2 q hq)⟩, ?_⟩
    · dsimp only
      by_cases e : g = k'
      · rw [e]; exact zuA_eq
      · rw [zuA_ni (nI_ne (by omega) (by omega) e)]; exact g1 g (by omega)
    · dsimp only
      rw [q128_14]
      simp only [q128_15, q128_16, q128_19, q128_20, q128_21, q128_24, q128_25, q128_28, q128_29, q128_30, q128_33, q128_34, q128_35, q128_36, q128_39, ix0, e0, c1, i93, i96, e2, zCall_some, Option.toList, List.cons_append, List.nil_append, zb_0, zb_1, zem, z01, z11, nI_add, ↓reduceIte, not_true_eq_false, not_false_eq_true, n0T, n1F, n11T, true_or, or_true, false_or]) (0, a1) ⟨rfl, fun g hg => by omega, fun _ _ => rfl⟩
  obtain ⟨⟨k, a2⟩, ⟨hk, g1, g2⟩, e⟩ := key
  dsimp only at g1 g2 hk e
  rw [hk] at e
  have hR2 : MR σ a2 := hR1.of (g2 86 (by omega))
  have e0 := hR2 0 (by omega)
  have c1 : nI (σ 0) ≤ nI (σ 0) := nI_le (Nat.le_refl _) (by omega)
  obtain ⟨a3, t1, t2, t3⟩ := ha_2 (sc := sc) (d := d) (f := f) (j := j) (w := w) (v1 := .int (nI (if tr = true then 1 else 0))) hV (σ 0) 0 a2 (by omega) hR2 g1
  have hR3 : MR σ a3 := hR2.of (t3 86 (by omega) (by omega) (by omega))
  have hbeg : cf sc (d + 4) 128 [.ref 85, .int (nI (if tr = true then 1 else 0))] f a j = rn sc (cf sc (d + 3)) 128 75 [.ref 85, .int (nI (if tr = true then 1 else 0)), .int (nI 0)] [] f a3 j := by
    rw [en128]
    simp only [q128_0, q128_1, q128_2, q128_5, q128_6, q128_9, q128_12, q128_13, hl, hAF, s1, zCall_some, Option.toList, List.cons_append, List.nil_append, zb_0, zb_1, zem, z01, z11, nI_add, ↓reduceIte, not_true_eq_false, not_false_eq_true, n0T, n1F, n11T, true_or, or_true, false_or]
    refine Eq.trans (show _ = _ from e) ?_
    simp only [q128_14, q128_15, q128_16, q128_19, q128_20, q128_21, q128_42, q128_43, ix0, e0, c1, zCall_some, Option.toList, List.cons_append, List.nil_append, zb_0, zb_1, zem, z01, z11, nI_add, ↓reduceIte, not_true_eq_false, not_false_eq_true, n0T, n1F, n11T, true_or, or_true, false_or]
    refine Eq.trans (show _ = _ from t1) ?_
    simp only [q128_73, q128_74, zCall_some, Option.toList, List.cons_append, List.nil_append, zb_0, zb_1, zem, z01, z11, nI_add, ↓reduceIte, not_true_eq_false, not_false_eq_true, n0T, n1F, n11T, true_or, or_true, false_or]
  rw [hbeg]
  have kf : ∀ q, q ≠ 93 → q ≠ 96 → q ≠ 97 → a3 q = a q := fun q q1 q2 q3 => by rw [t3 q q1 q2 q3, g2 q q1, s3 q q2 q3]
  cases tr with
  | false =>
    refine ⟨a3, ?_, t2, kf⟩
    have ix4 : zIx 21 86 (nI 4) := ix86 (by omega)
    have e4 := hR3 4 (by omega)
    rw [if_neg (show ¬ false = true by decide), q128_75]
    by_cases c4 : nI (σ 4) ≤ nI 0
    · simp only [q128_76, q128_77, q128_80, q128_81, q128_82, q128_147, ix4, e4, c4, zCall_some, Option.toList, List.cons_append, List.nil_append, zb_0, zb_1, zem, z01, z11, nI_add, ↓reduceIte, not_true_eq_false, not_false_eq_true, n0T, n1F, n11T, true_or, or_true, false_or]
    · simp only [q128_76, q128_77, q128_80, q128_81, q128_82, q128_85, q128_86, q128_147, ix4, e4, c4, zCall_some, Option.toList, List.cons_append, List.nil_append, zb_0, zb_1, zem, z01, z11, nI_add, ↓reduceIte, not_true_eq_false, not_false_eq_true, n0T, n1F, n11T, true_or, or_true, false_or]
  | true =>
    obtain ⟨a4, u1, u2, u3⟩ := ha_3 (sc := sc) (F := cf sc (d + 3)) (f := f) (j := j) (w := w) hR3 hV (hT rfl) t2
    exact ⟨a4, u1, u2, fun q q1 q2 q3 => by rw [u3 q q1, kf q q1 q2 q3]⟩
