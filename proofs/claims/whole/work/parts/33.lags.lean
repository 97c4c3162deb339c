/-! ===== the class: countLags, giveRests, shareOut ===== -/
theorem cl_in {sc : Int32 × (Int32 → Int32)} {F : zCF} {f : zF} {a : zA} {j : zJ} {c p o : Nat} {σ : Nat → Nat} {v2 v3 : Value} (hc : isC c) (hR : CR0 c σ f a) (ho : o < 4) (hp : p ≤ 4) : ∀ (m s : Nat), s + m = o + 1 - p →
    ∃ x : Int32, rn sc F 35 37 [.ref 54, .ref c, v2, v3, .int (nI o), .int (nI (lgF σ p s)), .int (nI (p + s))] [] f a j = rn sc F 35 68 [.ref 54, .ref c, v2, v3, .int (nI o), .int (nI (lgF σ p (o + 1 - p))), .int x] [] f a j := by
  intro m
  induction m with
  | zero =>
    intro s hs
    have e : s = o + 1 - p := by omega
    have c1 : nI o < nI (p + s) := nI_lt (by omega) (by omega)
    refine ⟨nI (p + s), ?_⟩
    rw [e] at c1 ⊢
    simp only [q35_37, q35_39, q35_41, c1, zCall_some, Option.toList, List.cons_append, List.nil_append, zb_0, zb_1, zem, z01, z11, nI_add, ↓reduceIte, not_true_eq_false, not_false_eq_true, n0T, n1F, n11T, true_or, or_true, false_or]
  | succ m ih =>
    intro s hs
    have c1 : ¬ nI o < nI (p + s) := nI_nlt (by omega) (by omega)
    have c2 : ¬ nI 4 ≤ nI (p + s) := nI_ge (by omega) (by omega)
    have ix1 : zIx 21 (c + 1) (nI (p + s)) := ixC1 hc (by omega)
    obtain ⟨x, h1⟩ := ih (s + 1) (by omega)
    refine ⟨x, ?_⟩
    rw [← h1, q35_37]
    have e1 : lgF σ p (s + 1) = lgF σ p s + σ (8 + (p + s)) := rfl
    rw [e1]
    simp only [q35_0, q35_1, q35_2, q35_5, q35_6, q35_7, q35_8, q35_9, q35_10, q35_11, q35_14, q35_17, q35_18, q35_19, q35_22, q35_23, q35_24, q35_27, q35_29, q35_30, q35_32, q35_33, q35_34, q35_35, q35_39, q35_41, q35_44, q35_46, q35_47, q35_50, q35_52, q35_53, q35_56, q35_58, q35_59, q35_60, q35_62, q35_65, q35_68, q35_69, q35_72, q35_73, q35_75, q35_76, q35_77, q35_78, q35_81, q35_83, q35_84, q35_87, q35_89, q35_90, q35_93, q35_96, c1, c2, hc, ix1, (hR.2.2.1 (p + s) (by omega)).1, Nat.add_assoc, zCall_some, Option.toList, List.cons_append, List.nil_append, zb_0, zb_1, zem, z01, z11, nI_add, ↓reduceIte, not_true_eq_false, not_false_eq_true, n0T, n1F, n11T, true_or, or_true, false_or]
/-- behind countLags -/
def ClO (σ : Nat → Nat) (L : List Nat) (i : Nat) (f : zF) (a : zA) : Prop := f 54 11 = nI (lgS σ L i) ∧ ∀ q, q < i → a 57 (nI q) = nI (lgA σ L q)
theorem cl_out {sc : Int32 × (Int32 → Int32)} {d : Nat} {j : zJ} {c : Nat} {σ : Nat → Nat} {L : List Nat} (hc : isC c) (hV : VR σ) (hl : L.length ≤ 8) (hL : ∀ q, q < L.length → L.getD q 0 < σ 0) : ∀ (m i : Nat) (f : zF) (a : zA) (v2 : Int32) (v4 v5 v6 : Value), i + m = L.length → f 54 10 = nI L.length → zLst a 56 L → CR0 c σ f a → v2 + nI 1 = nI (lgP σ L i) → ClO σ L i f a →
    ∃ (f' : zF) (a' : zA), rn sc (cf sc (d + 3)) 35 9 [.ref 54, .ref c, .int v2, .int (nI i), v4, v5, v6] [] f a j = some (none, f', a', j) ∧ ClO σ L L.length f' a' ∧ (∀ k, k ≠ 57 → a' k = a k) ∧ (∀ k, k ≠ 54 → f' k = f k) ∧ ∀ i, i ≠ 11 → f' 54 i = f 54 i := by
  have hn := hV.1
  have hcl := isC_lt hc
  intro m
  induction m with
  | zero =>
    intro i f a v2 v4 v5 v6 hi hf hA hR h2 hC
    have hi : i = L.length := by omega
    subst hi
    have c1 : nI L.length ≤ nI L.length := nI_le (Nat.le_refl _) (by omega)
    refine ⟨f, a, ?_, hC, fun _ _ => rfl, fun _ _ => rfl, fun _ _ => rfl⟩
    simp only [q35_9, q35_10, q35_11, q35_14, q35_96, hf, c1, zCall_some, Option.toList, List.cons_append, List.nil_append, zb_0, zb_1, zem, z01, z11, nI_add, ↓reduceIte, not_true_eq_false, not_false_eq_true, n0T, n1F, n11T, true_or, or_true, false_or]
  | succ m ih =>
    intro i f a v2 v4 v5 v6 hi hf hA hR h2 hC
    have hil : i < L.length := by omega
    have hg := hL i hil
    have ho := (hV.2.2.1 _ hg).1
    have c1 : ¬ nI L.length ≤ nI i := nI_ge hil (by omega)
    have ix6 : zIx 21 56 (nI i) := ix56 (by omega)
    have ix7 : zIx 21 57 (nI i) := ix57 (by omega)
    have e6 : a 56 (nI i) = nI (L.getD i 0) := hA i hil
    have hp : lgP σ L i ≤ 4 := by
      cases i with
      | zero => show (0 : Nat) ≤ 4; omega
      | succ q =>
        have := (hV.2.2.1 _ (hL q (by omega))).1
        show σ (16 + L.getD q 0) + 1 ≤ 4
        omega
    obtain ⟨x, hx⟩ := cl_in (sc := sc) (F := cf sc (d + 3)) (j := j) (v2 := .int v2) (v3 := .int (nI i)) hc hR ho hp (σ (16 + L.getD i 0) + 1 - lgP σ L i) 0 (by omega)
    obtain ⟨hC1, hC2⟩ := hC
    obtain ⟨f', a', h1, g2, h3, h4, h5⟩ := ih (i + 1) (zuF f 54 11 (nI (lgS σ L i + lgA σ L i))) (zuA a 57 (nI i) (nI (lgA σ L i))) (nI (σ (16 + L.getD i 0))) (.int (nI (σ (16 + L.getD i 0)))) (.int (nI (lgA σ L i))) (.int x) (by omega) (by rw [zuF_ni (by omega)]; exact hf) (zLst_of hA (zuA_nk (by omega))) (hR.of hc (fun q hq => zuF_nk (by omega)) (fun q hq => zuA_nk (by omega))) (by rw [nI_add]; rfl)
      ⟨zuF_eq, fun q hq => by
        by_cases e : q = i
        · rw [e]; exact zuA_eq
        · rw [zuA_ni (nI_ne (by omega) (by omega) e)]; exact hC2 q (by omega)⟩
    refine ⟨f', a', ?_, g2, fun k hk => by rw [h3 k hk, zuA_nk hk], fun k hk => by rw [h4 k hk, zuF_nk hk], fun k hk => by rw [h5 k hk, zuF_ni hk]⟩
    rw [← h1, q35_9]
    simp only [q35_0, q35_1, q35_2, q35_5, q35_6, q35_7, q35_8, q35_10, q35_11, q35_14, q35_17, q35_18, q35_19, q35_22, q35_23, q35_24, q35_27, q35_29, q35_30, q35_32, q35_33, q35_34, q35_35, q35_39, q35_41, q35_44, q35_46, q35_47, q35_50, q35_52, q35_53, q35_56, q35_58, q35_59, q35_60, q35_62, q35_65, hf, c1, hc, ix6, e6, m_ownReach hc hV hR hg, h2, zCall_some, Option.toList, List.cons_append, List.nil_append, zb_0, zb_1, zem, z01, z11, nI_add, ↓reduceIte, not_true_eq_false, not_false_eq_true, n0T, n1F, n11T, true_or, or_true, false_or]
    refine Eq.trans (show _ = _ from hx) ?_
    have e9 : lgF σ (lgP σ L i) (σ (16 + L.getD i 0) + 1 - lgP σ L i) = lgA σ L i := rfl
    rw [e9]
    simp only [q35_0, q35_1, q35_2, q35_5, q35_6, q35_7, q35_8, q35_10, q35_11, q35_14, q35_17, q35_18, q35_19, q35_22, q35_23, q35_24, q35_27, q35_29, q35_30, q35_32, q35_33, q35_34, q35_35, q35_39, q35_41, q35_44, q35_46, q35_47, q35_50, q35_52, q35_53, q35_56, q35_58, q35_59, q35_60, q35_62, q35_65, q35_68, q35_69, q35_72, q35_73, q35_75, q35_76, q35_77, q35_78, q35_81, q35_83, q35_84, q35_87, q35_89, q35_90, q35_93, q35_96, hC1, ix7, zCall_some, Option.toList, List.cons_append, List.nil_append, zb_0, zb_1, zem, z01, z11, nI_add, ↓reduceIte, not_true_eq_false, not_false_eq_true, n0T, n1F, n11T, true_or, or_true, false_or]
theorem m_countLags {sc : Int32 × (Int32 → Int32)} {f : zF} {a : zA} {j : zJ} {d c : Nat} {σ : Nat → Nat} {L : List Nat} (hc : isC c) (hV : VR σ) (hl : L.length ≤ 8) (hL : ∀ q, q < L.length → L.getD q 0 < σ 0) (hf : f 54 10 = nI L.length) (hA : zLst a 56 L) (hR : CR0 c σ f a) :
    ∃ (f' : zF) (a' : zA), cf sc (d + 4) 35 [.ref 54, .ref c] f a j = some (none, f', a', j) ∧ ClO σ L L.length f' a' ∧ (∀ k, k ≠ 57 → a' k = a k) ∧ (∀ k, k ≠ 54 → f' k = f k) ∧ ∀ i, i ≠ 11 → f' 54 i = f 54 i := by
  have hcl := isC_lt hc
  obtain ⟨f', a', h1, h2, h3, h4, h5⟩ := cl_out (sc := sc) (d := d) (j := j) hc hV hl hL L.length 0 (zuF f 54 11 (nI 0)) a (-1) .null .null .null (by omega) (by rw [zuF_ni (by omega)]; exact hf) hA (hR.of hc (fun q hq => zuF_nk (by omega)) (fun _ _ => rfl)) (show (-1 : Int32) + nI 1 = nI 0 by decide) ⟨zuF_eq, fun q hq => by omega⟩
  refine ⟨f', a', ?_, h2, h3, fun k hk => by rw [h4 k hk, zuF_nk hk], fun k hk => by rw [h5 k hk, zuF_ni hk]⟩
  rw [en35]
  simp only [q35_0, q35_1, q35_2, q35_5, q35_6, q35_7, q35_8]
  exact h1
theorem gr_in {sc : Int32 × (Int32 → Int32)} {F : zCF} {f : zF} {a : zA} {j : zJ} {R : Nat → Int32} {v1 v2 : Value} (hR : ∀ g, g < 8 → a 60 (nI g) = R g) : ∀ (m g : Nat), g + m = 7 →
    rn sc F 39 18 [.ref 54, v1, v2, .int (nI (bsF R g)), .int (nI (g + 1))] [] f a j = rn sc F 39 50 [.ref 54, v1, v2, .int (nI (bsF R 7)), .int (nI 8)] [] f a j := by
  intro m
  induction m with
  | zero =>
    intro g hg
    have e : g = 7 := by omega
    subst e
    have c1 : nI 8 ≤ nI (7 + 1) := nI_le (by omega) (by omega)
    simp only [q39_18, q39_20, q39_22, c1, zCall_some, Option.toList, List.cons_append, List.nil_append, zb_0, zb_1, zem, z01, z11, nI_add, ↓reduceIte, not_true_eq_false, not_false_eq_true, n0T, n1F, n11T, true_or, or_true, false_or]
  | succ m ih =>
    intro g hg
    have hb := bsF_le R g
    have c1 : ¬ nI 8 ≤ nI (g + 1) := nI_ge (by omega) (by omega)
    have ix1 : zIx 21 60 (nI (g + 1)) := ix60 (by omega)
    have ix2 : zIx 21 60 (nI (bsF R g)) := ix60 (by omega)
    have e1 : bsF R (g + 1) = if R (bsF R g) < R (g + 1) then g + 1 else bsF R g := rfl
    rw [← ih (g + 1) (by omega), q39_18, e1]
    by_cases h : R (bsF R g) < R (g + 1)
    · have h9 : ¬ R (g + 1) ≤ R (bsF R g) := Int32.not_le.mpr h
      simp only [q39_0, q39_1, q39_2, q39_3, q39_4, q39_7, q39_8, q39_10, q39_13, q39_14, q39_15, q39_16, q39_20, q39_22, q39_25, q39_26, q39_29, q39_31, q39_32, q39_33, q39_36, q39_37, q39_38, q39_41, q39_43, q39_44, q39_47, q39_51, q39_54, q39_55, q39_56, q39_57, q39_58, q39_59, q39_60, q39_61, q39_64, q39_65, q39_66, q39_67, q39_70, q39_73, c1, ix1, ix2, hR (g + 1) (by omega), hR (bsF R g) (by omega), h, h9, zCall_some, Option.toList, List.cons_append, List.nil_append, zb_0, zb_1, zem, z01, z11, nI_add, ↓reduceIte, not_true_eq_false, not_false_eq_true, n0T, n1F, n11T, true_or, or_true, false_or]
    · have h9 : R (g + 1) ≤ R (bsF R g) := Int32.not_lt.mp h
      simp only [q39_0, q39_1, q39_2, q39_3, q39_4, q39_7, q39_8, q39_10, q39_13, q39_14, q39_15, q39_16, q39_20, q39_22, q39_25, q39_26, q39_29, q39_31, q39_32, q39_33, q39_36, q39_37, q39_38, q39_41, q39_43, q39_44, q39_47, q39_51, q39_54, q39_55, q39_56, q39_57, q39_58, q39_59, q39_60, q39_61, q39_64, q39_65, q39_66, q39_67, q39_70, q39_73, c1, ix1, ix2, hR (g + 1) (by omega), hR (bsF R g) (by omega), h, h9, zCall_some, Option.toList, List.cons_append, List.nil_append, zb_0, zb_1, zem, z01, z11, nI_add, ↓reduceIte, not_true_eq_false, not_false_eq_true, n0T, n1F, n11T, true_or, or_true, false_or]
theorem gr_out {sc : Int32 × (Int32 → Int32)} {F : zCF} {f : zF} {j : zJ} {R : Nat → Int32} {P : Nat → Nat} {n ov : Nat} (hn : n ≤ 8) (hR1 : ∀ g, n ≤ g → R g = -1) (hR2 : ∀ g, -1 ≤ R g) (ho : ov ≤ 8) : ∀ (m i : Nat) (a : zA) (v3 v4 : Value), i + m = ov → (∀ g, g < 8 → a 60 (nI g) = gvR R n i g) → (∀ g, g < 8 → a 58 (nI g) = nI (gvP P R n i g)) →
    ∃ a' : zA, rn sc F 39 2 [.ref 54, .int (nI ov), .int (nI i), v3, v4] [] f a j = some (none, f, a', j) ∧ (∀ g, g < 8 → a' 58 (nI g) = nI (gvP P R n ov g)) ∧ ∀ k, k ≠ 58 → k ≠ 60 → a' k = a k := by
  intro m
  induction m with
  | zero =>
    intro i a v3 v4 hi hA hB
    have e : i = ov := by omega
    subst e
    have c1 : nI i ≤ nI i := nI_le (Nat.le_refl _) (by omega)
    refine ⟨a, ?_, hB, fun _ _ _ => rfl⟩
    simp only [q39_2, q39_3, q39_4, q39_73, c1, zCall_some, Option.toList, List.cons_append, List.nil_append, zb_0, zb_1, zem, z01, z11, nI_add, ↓reduceIte, not_true_eq_false, not_false_eq_true, n0T, n1F, n11T, true_or, or_true, false_or]
  | succ m ih =>
    intro i a v3 v4 hi hA hB
    have c1 : ¬ nI ov ≤ nI i := nI_ge (by omega) (by omega)
    have c2 : ¬ nI 8 ≤ nI i := nI_ge (by omega) (by omega)
    have hbs : bsF (gvR R n i) 7 = bsF (gvR R n i) (n - 1) := by
      have h1 : ∀ g, n - 1 < g → gvR R n i g = -1 := fun g hg => gvR_m1 (p := n - 1) (fun g hg => hR1 g (by omega)) i g hg
      have := bsF_tail h1 (gvR_ge hR2 i) (7 - (n - 1))
      rwa [show n - 1 + (7 - (n - 1)) = 7 by omega] at this
    have hb := bsF_le (gvR R n i) 7
    have hin := gr_in (sc := sc) (F := F) (f := f) (j := j) (v1 := .int (nI ov)) (v2 := .int (nI i)) hA 7 0 (by omega)
    have ix1 : zIx 21 58 (nI (bsF (gvR R n i) 7)) := ix58 (by omega)
    have ix2 : zIx 21 60 (nI (bsF (gvR R n i) 7)) := ix60 (by omega)
    obtain ⟨a', h1, h2, h3⟩ := ih (i + 1) (zuA (zuA a 58 (nI (bsF (gvR R n i) 7)) (nI (gvP P R n i (bsF (gvR R n i) 7) + 1))) 60 (nI (bsF (gvR R n i) 7)) (-1)) (.int (nI (bsF (gvR R n i) 7))) (.int (nI 8)) (by omega)
      (fun g hg => by
        rw [gvR_s, ← hbs]
        by_cases e : g = bsF (gvR R n i) 7
        · rw [if_pos e, ← e]; exact zuA_eq
        · rw [if_neg e, zuA_ni (nI_ne (by omega) (by omega) e), zuA_nk (by omega)]; exact hA g hg)
      (fun g hg => by
        rw [gvP_s, ← hbs, zuA_nk (by omega)]
        by_cases e : g = bsF (gvR R n i) 7
        · rw [if_pos e, ← e]; exact zuA_eq
        · rw [if_neg e, zuA_ni (nI_ne (by omega) (by omega) e)]; exact hB g hg)
    refine ⟨a', ?_, h2, fun k k1 k2 => by rw [h3 k k1 k2, zuA_nk k2, zuA_nk k1]⟩
    rw [← h1, q39_2]
    simp only [q39_3, q39_4, q39_7, q39_8, q39_10, q39_13, q39_14, q39_15, q39_16, c1, c2, zCall_some, Option.toList, List.cons_append, List.nil_append, zb_0, zb_1, zem, z01, z11, nI_add, ↓reduceIte, not_true_eq_false, not_false_eq_true, n0T, n1F, n11T, true_or, or_true, false_or]
    refine Eq.trans (show _ = _ from hin) ?_
    simp only [q39_0, q39_1, q39_3, q39_4, q39_7, q39_8, q39_10, q39_13, q39_14, q39_15, q39_16, q39_20, q39_22, q39_25, q39_26, q39_29, q39_31, q39_32, q39_33, q39_36, q39_37, q39_38, q39_41, q39_43, q39_44, q39_47, q39_50, q39_51, q39_54, q39_55, q39_56, q39_57, q39_58, q39_59, q39_60, q39_61, q39_64, q39_65, q39_66, q39_67, q39_70, q39_73, ix1, ix2, hB (bsF (gvR R n i) 7) (by omega), zCall_some, Option.toList, List.cons_append, List.nil_append, zb_0, zb_1, zem, z01, z11, nI_add, ↓reduceIte, not_true_eq_false, not_false_eq_true, n0T, n1F, n11T, true_or, or_true, false_or]
theorem m_giveRests {sc : Int32 × (Int32 → Int32)} {f : zF} {a : zA} {j : zJ} {d n ov : Nat} {R : Nat → Int32} {P : Nat → Nat} (hn : n ≤ 8) (hR1 : ∀ g, n ≤ g → R g = -1) (hR2 : ∀ g, -1 ≤ R g) (ho : ov ≤ 8) (hA : ∀ g, g < 8 → a 60 (nI g) = R g) (hB : ∀ g, g < 8 → a 58 (nI g) = nI (P g)) :
    ∃ a' : zA, cf sc (d + 1) 39 [.ref 54, .int (nI ov)] f a j = some (none, f, a', j) ∧ (∀ g, g < 8 → a' 58 (nI g) = nI (gvP P R n ov g)) ∧ ∀ k, k ≠ 58 → k ≠ 60 → a' k = a k := by
  obtain ⟨a', h1, h2, h3⟩ := gr_out (sc := sc) (F := cf sc d) (f := f) (j := j) (P := P) hn hR1 hR2 ho ov 0 a .null .null (by omega) hA hB
  refine ⟨a', ?_, h2, h3⟩
  rw [en39]
  simp only [q39_0, q39_1]
  exact h1
