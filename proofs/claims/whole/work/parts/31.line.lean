/-! ===== the class: Turns.standInLine, takeOrder ===== -/
/-- a Canal's cells hold σ, as far as a WEEK's working out needs it -/
def CR0 (c : Nat) (σ : Nat → Nat) (f : zF) (a : zA) : Prop :=
  f c 6 = nI (σ 0) ∧ (∀ g, g < σ 0 → bt (f c 5) g = decide (σ (32 + g) = 1)) ∧ (∀ r, r < 4 → a (c + 1) (nI r) = nI (σ (8 + r)) ∧ a (c + 2) (nI r) = nI (σ (12 + r))) ∧
  (∀ g, g < σ 0 → a (c + 3) (nI g) = nI (σ (16 + g)) ∧ a (c + 4) (nI g) = nI (σ (24 + g))) ∧ f (c + 5) 3 = nI (σ 4) ∧
  ∀ k, k < σ 4 → a (c + 6) (nI k) = nI (σ (40 + k)) ∧ a (c + 7) (nI k) = nI (σ (52 + k)) ∧ a (c + 8) (nI k) = nI (σ (64 + k))
theorem isC_lt {c : Nat} (h : isC c) : c + 8 < 54 := by rcases h with rfl | rfl | rfl <;> decide
theorem CR0.of {c : Nat} {σ : Nat → Nat} {f f' : zF} {a a' : zA} (hc : isC c) (h : CR0 c σ f a) (hf : ∀ k, k < 54 → f' k = f k) (ha : ∀ k, k < 54 → a' k = a k) : CR0 c σ f' a' := by
  have h9 := isC_lt hc
  unfold CR0 at h ⊢
  rw [hf c (by omega), hf (c + 5) (by omega), ha (c + 1) (by omega), ha (c + 2) (by omega), ha (c + 3) (by omega), ha (c + 4) (by omega), ha (c + 6) (by omega), ha (c + 7) (by omega), ha (c + 8) (by omega)]
  exact h
theorem sil_in {sc : Int32 × (Int32 → Int32)} {F : zCF} {f : zF} {j : zJ} {c r : Nat} {σ : Nat → Nat} (hc : isC c) (hV : VR σ) (hr : r < 4) (hf : f 54 9 = nI (σ 0)) : ∀ (m g : Nat) (a : zA), g + m = σ 0 → zLst a 55 (lnI σ r g (lnO σ r)) → (∀ q, q < σ 0 → a (c + 3) (nI q) = nI (σ (16 + q))) →
    ∃ (x : Int32) (a' : zA), rn sc F 31 12 [.ref 54, .ref c, .int (nI (lnI σ r g (lnO σ r)).length), .int (nI r), .int (nI g)] [] f a j = rn sc F 31 55 [.ref 54, .ref c, .int (nI (lnI σ r (σ 0) (lnO σ r)).length), .int (nI r), .int x] [] f a' j ∧ zLst a' 55 (lnI σ r (σ 0) (lnO σ r)) ∧ ∀ k, k ≠ 55 → a' k = a k := by
  have hn := hV.1
  intro m
  induction m with
  | zero =>
    intro g a hg hL hA
    have hg : g = σ 0 := by omega
    subst hg
    have c1 : nI (σ 0) ≤ nI (σ 0) := nI_le (Nat.le_refl _) (by omega)
    refine ⟨nI (σ 0), a, ?_, hL, fun _ _ => rfl⟩
    simp only [q31_12, q31_14, q31_15, q31_18, hf, c1, zCall_some, Option.toList, List.cons_append, List.nil_append, zb_0, zb_1, zem, z01, z11, nI_add, ↓reduceIte, not_true_eq_false, not_false_eq_true, n0T, n1F, n11T, true_or, or_true, false_or]
  | succ m ih =>
    intro g a hg hL hA
    have hgn : g < σ 0 := by omega
    have ix3 : zIx 21 (c + 3) (nI g) := ixC3 hc (by omega)
    have c1 : ¬ nI (σ 0) ≤ nI g := nI_ge hgn (by omega)
    have hlen : (lnI σ r g (lnO σ r)).length ≤ 8 := by
      rw [lnI_len, lnO_len]
      have h1 := ctS_le σ (σ 0) (r + 1)
      have h2 : ctI σ r g ≤ ctI σ r (σ 0) := ctI_mono σ r (by omega)
      rw [ctS_s] at h1
      omega
    rw [q31_12]
    by_cases h8 : 8 ≤ (lnI σ r g (lnO σ r)).length
    · have c2 : nI 8 ≤ nI (lnI σ r g (lnO σ r)).length := nI_le h8 (by omega)
      refine ⟨nI g, a, ?_, ?_, fun _ _ => rfl⟩
      · simp only [q31_0, q31_1, q31_2, q31_3, q31_4, q31_5, q31_6, q31_9, q31_10, q31_14, q31_15, q31_18, q31_21, q31_22, q31_24, q31_27, q31_28, q31_31, q31_33, q31_34, q31_35, q31_38, q31_39, q31_42, q31_43, q31_45, q31_46, q31_49, q31_52, q31_55, q31_58, q31_61, hf, c1, c2, ln_full hV (by omega) h8, zCall_some, Option.toList, List.cons_append, List.nil_append, zb_0, zb_1, zem, z01, z11, nI_add, ↓reduceIte, not_true_eq_false, not_false_eq_true, n0T, n1F, n11T, true_or, or_true, false_or]
      · rw [ln_full hV (by omega) h8]
        exact hL
    · have c2 : ¬ nI 8 ≤ nI (lnI σ r g (lnO σ r)).length := nI_ge (by omega) (by omega)
      by_cases he : σ (16 + g) = r
      · have ix5 : zIx 21 55 (nI (lnI σ r g (lnO σ r)).length) := ix55 (by omega)
        have e1 : lnI σ r (g + 1) (lnO σ r) = lnI σ r g (lnO σ r) ++ [g] := by
          show (if σ (16 + g) = r then _ else _) = _
          rw [if_pos he]
        have e2 : (lnI σ r (g + 1) (lnO σ r)).length = (lnI σ r g (lnO σ r)).length + 1 := by rw [e1, List.length_append]; rfl
        obtain ⟨x, a', h1, h2, h3⟩ := ih (g + 1) (zuA a 55 (nI (lnI σ r g (lnO σ r)).length) (nI g)) (by omega) (by rw [e1]; exact zLst_push (by omega) hL g) (fun q hq => by rw [zuA_nk (by have := isC_lt hc; omega)]; exact hA q hq)
        refine ⟨x, a', ?_, h2, fun k hk => by rw [h3 k hk, zuA_nk hk]⟩
        rw [← h1, e2]
        have e3 : nI (σ (16 + g)) = nI r := by rw [he]
        simp only [q31_0, q31_1, q31_2, q31_3, q31_4, q31_5, q31_6, q31_9, q31_10, q31_14, q31_15, q31_18, q31_21, q31_22, q31_24, q31_27, q31_28, q31_31, q31_33, q31_34, q31_35, q31_38, q31_39, q31_42, q31_43, q31_45, q31_46, q31_49, q31_52, q31_55, q31_58, q31_61, hf, hc, c1, c2, ix3, ix5, hA g hgn, e3, zCall_some, Option.toList, List.cons_append, List.nil_append, zb_0, zb_1, zem, z01, z11, nI_add, ↓reduceIte, not_true_eq_false, not_false_eq_true, n0T, n1F, n11T, true_or, or_true, false_or]
      · have e1 : lnI σ r (g + 1) (lnO σ r) = lnI σ r g (lnO σ r) := by
          show (if σ (16 + g) = r then _ else _) = _
          rw [if_neg he]
        obtain ⟨x, a', h1, h2, h3⟩ := ih (g + 1) a (by omega) (by rw [e1]; exact hL) hA
        refine ⟨x, a', ?_, h2, h3⟩
        rw [← h1, e1]
        have e3 : ¬ nI (σ (16 + g)) = nI r := nI_ne (by have := (hV.2.2.1 g hgn).1; omega) (by omega) he
        simp only [q31_0, q31_1, q31_2, q31_3, q31_4, q31_5, q31_6, q31_9, q31_10, q31_14, q31_15, q31_18, q31_21, q31_22, q31_24, q31_27, q31_28, q31_31, q31_33, q31_34, q31_35, q31_38, q31_39, q31_42, q31_43, q31_45, q31_46, q31_49, q31_52, q31_55, q31_58, q31_61, hf, hc, c1, c2, ix3, hA g hgn, e3, zCall_some, Option.toList, List.cons_append, List.nil_append, zb_0, zb_1, zem, z01, z11, nI_add, ↓reduceIte, not_true_eq_false, not_false_eq_true, n0T, n1F, n11T, true_or, or_true, false_or]
theorem m_standInLine {sc : Int32 × (Int32 → Int32)} {f : zF} {a : zA} {j : zJ} {d c : Nat} {σ : Nat → Nat} (hc : isC c) (hV : VR σ) (hR : CR0 c σ f a) (hf : f 54 9 = nI (σ 0)) :
    ∃ a' : zA, cf sc (d + 1) 31 [.ref 54, .ref c] f a j = some (none, f, a', j) ∧ zLst a' 55 (lnO σ 4) ∧ ∀ k, k ≠ 55 → a' k = a k := by
  rw [en31]
  have key := zLoopP (n := 4) (g := fun s : (Nat × Value × zA) => rn sc (cf sc d) 31 4 [.ref 54, .ref c, .int (nI (lnO σ s.1).length), .int (nI s.1), s.2.1] [] f s.2.2 j) (P := fun i s => s.1 = i ∧ zLst s.2.2 55 (lnO σ i) ∧ ∀ k, k ≠ 55 → s.2.2 k = a k) (by
    intro i s hi hP
    obtain ⟨r, v, a1⟩ := s
    obtain ⟨rfl, hL, hk⟩ := hP
    dsimp only at hL hk
    obtain ⟨x, a', h1, h2, h3⟩ := sil_in (sc := sc) (F := cf sc d) (j := j) hc hV hi hf (σ 0) 0 a1 (by omega) hL (fun q hq => by rw [hk _ (by have := isC_lt hc; omega)]; exact (hR.2.2.2.1 q hq).1)
    refine ⟨(r + 1, .int x, a'), ⟨rfl, h2, fun k hk9 => (h3 k hk9).trans (hk k hk9)⟩, ?_⟩
    have c1 : ¬ nI 4 ≤ nI r := nI_ge hi (by omega)
    dsimp only
    rw [q31_4]
    simp only [q31_5, q31_6, q31_9, q31_10, c1, zCall_some, Option.toList, List.cons_append, List.nil_append, zb_0, zb_1, zem, z01, z11, nI_add, ↓reduceIte, not_true_eq_false, not_false_eq_true, n0T, n1F, n11T, true_or, or_true, false_or]
    refine Eq.trans h1 ?_
    rw [q31_55, q31_58, nI_add]
    rfl) (0, .null, a) ⟨rfl, zLst_nil, fun _ _ => rfl⟩
  obtain ⟨⟨r, v, a'⟩, ⟨rfl, hL, hk⟩, e⟩ := key
  refine ⟨a', ?_, hL, hk⟩
  have c1 : nI 4 ≤ nI 4 := nI_le (Nat.le_refl _) (by omega)
  rw [q31_0, q31_1, q31_2, q31_3]
  refine Eq.trans e ?_
  simp only [q31_4, q31_5, q31_6, q31_61, c1, zCall_some, Option.toList, List.cons_append, List.nil_append, zb_0, zb_1, zem, z01, z11, nI_add, ↓reduceIte, not_true_eq_false, not_false_eq_true, n0T, n1F, n11T, true_or, or_true, false_or]
theorem m_ownReach {sc : Int32 × (Int32 → Int32)} {f : zF} {a : zA} {j : zJ} {d c g : Nat} {σ : Nat → Nat} (hc : isC c) (hV : VR σ) (hR : CR0 c σ f a) (hg : g < σ 0) : cf sc (d + 3) 7 [.ref c, .int (nI g)] f a j = some (some (.int (nI (σ (16 + g)))), f, a, j) := by
  have hn := hV.1
  have h8 : g < 8 := by omega
  have ix3 : zIx 21 (c + 3) (nI g) := ixC3 hc (by omega)
  rw [en7]
  simp only [q7_0, q7_1, q7_4, q7_7, q7_8, q7_11, q7_12, q7_13, q7_16, q7_17, hc, m_canB h8, ix3, (hR.2.2.2.1 g hg).1, zCall_some, Option.toList, List.cons_append, List.nil_append, zb_0, zb_1, zem, z01, z11, nI_add, ↓reduceIte, not_true_eq_false, not_false_eq_true, n0T, n1F, n11T, true_or, or_true, false_or]
