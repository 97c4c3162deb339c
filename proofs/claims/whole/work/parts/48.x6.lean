/-! ===== the class: reachOf, trades, chain, seen, plan, book, count ===== -/
def FrW (f f' : zF) (a a' : zA) : Prop := (∀ k, (k < 2 ∨ (22 < k ∧ k < 45) ∨ 64 < k) → f' k = f k) ∧ ∀ k, (k < 2 ∨ (22 < k ∧ k < 45) ∨ 64 < k) → a' k = a k
theorem FrW.rf {f : zF} {a : zA} : FrW f f a a := ⟨fun _ _ => rfl, fun _ _ => rfl⟩
theorem FrT.w {f f' : zF} {a a' : zA} (h : FrT f f' a a') : FrW f f' a a' := ⟨fun k hk => h.1 k (by omega), fun k hk => h.2 k (by omega)⟩
theorem Fr2.w {f f' : zF} {a a' : zA} (h : Fr2 f f' a a') : FrW f f' a a' := ⟨fun k hk => h.1 k (by omega), fun k hk => h.2 k (by omega)⟩
theorem FrW.tr {f f1 f2 : zF} {a a1 a2 : zA} (h : FrW f f1 a a1) (g : FrW f1 f2 a1 a2) : FrW f f2 a a2 := ⟨fun k hk => (g.1 k hk).trans (h.1 k hk), fun k hk => (g.2 k hk).trans (h.2 k hk)⟩
theorem WR.lo {σ : Nat → Nat} {f f' : zF} {a a' : zA} (h : WR 1 σ f a) (hf : ∀ k, k < 23 → f' k = f k) (ha : ∀ k, k < 23 → a' k = a k) : WR 1 σ f' a' := by
  obtain ⟨h1, h2, h3, h4, h5⟩ := h
  unfold CR0 at h1
  refine ⟨?_, by rw [hf (1 + 1) (by omega)]; exact h2, h3.of rfl (fun _ _ => ⟨rfl, rfl⟩) (hf _ (by omega)) (ha _ (by omega)) (ha _ (by omega)), h4.of rfl (fun _ _ => ⟨rfl, rfl⟩) (hf _ (by omega)) (ha _ (by omega)) (ha _ (by omega)), h5.of rfl (fun _ _ => ⟨rfl, rfl⟩) (hf _ (by omega)) (ha _ (by omega)) (ha _ (by omega))⟩
  unfold CR0
  rw [hf (1 + 1) (by omega), hf (1 + 1 + 5) (by omega), ha (1 + 1 + 1) (by omega), ha (1 + 1 + 2) (by omega), ha (1 + 1 + 3) (by omega), ha (1 + 1 + 4) (by omega), ha (1 + 1 + 6) (by omega), ha (1 + 1 + 7) (by omega), ha (1 + 1 + 8) (by omega)]
  exact h1
/-- another state that is the same for a Canal -/
def Agc (σ τ : Nat → Nat) : Prop := ∀ i, (i < 5 ∨ (8 ≤ i ∧ i < 76)) → τ i = σ i
theorem CR.cong {c : Nat} {σ τ : Nat → Nat} {f : zF} {a : zA} (hn : σ 0 ≤ 8) (h4 : σ 4 ≤ 12) (e : Agc σ τ) (h : CR c σ f a) : CR c τ f a := by
  obtain ⟨⟨k1, k2, k3, k4, k5, k6⟩, k7⟩ := h
  unfold CR CR0
  rw [e 0 (by omega), e 1 (by omega), e 2 (by omega), e 3 (by omega), e 4 (by omega)]
  refine ⟨⟨k1, fun g hg => ?_, fun r hr => ?_, fun g hg => ?_, k5, fun k hk => ?_⟩, k7⟩
  · rw [e (32 + g) (by omega)]; exact k2 g hg
  · rw [e (8 + r) (by omega), e (12 + r) (by omega)]; exact k3 r hr
  · rw [e (16 + g) (by omega), e (24 + g) (by omega)]; exact k4 g hg
  · rw [e (40 + k) (by omega), e (52 + k) (by omega), e (64 + k) (by omega)]; exact k6 k hk
theorem VC.cong {σ τ : Nat → Nat} (e : Agr σ τ) (h : VC σ) : VC τ := by
  obtain ⟨⟨k1, k2, k3, k4⟩, k5⟩ := h
  unfold VC VR
  rw [e 0 (by omega), e 1 (by omega), e 2 (by omega), e 3 (by omega)]
  refine ⟨⟨k1, k2, fun g hg => ?_, fun r hr => ?_⟩, k5⟩
  · rw [e (16 + g) (by omega), e (24 + g) (by omega), e (32 + g) (by omega)]; exact k3 g hg
  · rw [e (8 + r) (by omega), e (12 + r) (by omega)]; exact k4 r hr
theorem TrOK.cong {σ τ : Nat → Nat} (hV : VR σ) (e : Agc σ τ) (h : TrOK σ (σ 3)) : TrOK τ (τ 3) := by
  obtain ⟨h1, h2⟩ := h
  have hn := hV.1
  unfold TrOK
  rw [e 4 (by omega), e 3 (by omega), e 0 (by omega)]
  refine ⟨h1, fun k hk => ?_⟩
  have := h2 k hk
  rw [e (40 + k) (by omega), e (52 + k) (by omega), e (64 + k) (by omega), g_hvT (fun i hi => e i (by omega)) hV (σ 3) k (fun i hi => ⟨e _ (by omega), e _ (by omega), e _ (by omega), by have := h2 i (by omega); omega, by have := h2 i (by omega); omega⟩) _ (by omega)]
  exact this
def roS (σ : Nat → Nat) (v what : Int32) : Int32 := if zBtw v 0 3 then (if what = nI 0 then nI (σ (8 + v.toNatClampNeg)) else if what = nI 1 then nI (σ (12 + v.toNatClampNeg)) else if what = nI 2 then nI (ctI σ v.toNatClampNeg (σ 0)) else -1) else -1
theorem x_reachOf {sc : Int32 × (Int32 → Int32)} {f : zF} {a : zA} {j : zJ} {d : Nat} {σ : Nat → Nat} {v what : Int32} (hW : WR 1 σ f a) (hV : VS σ) : cf sc (d + 2) 57 [.ref 0, .int v, .int what] f a j = some (some (.int (roS σ v what)), f, a, j) := by
  have hVR := hV.1.1
  rw [en57]
  unfold roS
  by_cases hv : zBtw v 0 3
  · rw [if_pos hv]
    obtain ⟨r, r1, r2, rfl⟩ := zBtw_of (by omega) (by omega) hv
    rw [nI_clamp (n := r) (by omega)]
    have i1 : zIx 21 3 (nI r) := ixC1 isC_2 (by omega)
    have i2 : zIx 21 4 (nI r) := ixC2 isC_2 (by omega)
    have e1 : a 3 (nI r) = nI (σ (8 + r)) := (hW.1.2.2.1 r (by omega)).1
    have e2 : a 4 (nI r) = nI (σ (12 + r)) := (hW.1.2.2.1 r (by omega)).2
    have e3 := m_fieldsOn (sc := sc) (d := d) (f := f) (a := a) (j := j) isC_2 hVR hW.1 (show r < 4 by omega)
    by_cases h0 : what = nI 0
    · rw [h0]
      simp only [q57_0, q57_1, q57_2, q57_3, q57_6, q57_9, q57_10, q57_11, q57_12, q57_40, q57_41, q57_44, q57_47, q57_50, q57_51, q57_52, q57_53, q57_54, q57_57, q57_60, q57_63, q57_64, q57_65, q57_66, q57_67, q57_70, q57_73, q57_74, q57_77, q57_78, q57_79, m_isWithin, eq_true hv, isW_1, isC_2, Nat.reduceAdd, i1, e1, zCall_some, Option.toList, List.cons_append, List.nil_append, zb_0, zb_1, zem, z01, z11, nI_add, ↓reduceIte, not_true_eq_false, not_false_eq_true, n0T, n1F, n11T, true_or, or_true, false_or]
    · by_cases h1 : what = nI 1
      · rw [h1]
        simp only [q57_0, q57_1, q57_2, q57_3, q57_6, q57_9, q57_10, q57_11, q57_12, q57_40, q57_41, q57_44, q57_47, q57_50, q57_51, q57_52, q57_53, q57_54, q57_57, q57_60, q57_63, q57_64, q57_65, q57_66, q57_67, q57_70, q57_73, q57_74, q57_77, q57_78, q57_79, m_isWithin, eq_true hv, isW_1, isC_2, Nat.reduceAdd, i2, e2, ne1_0, zCall_some, Option.toList, List.cons_append, List.nil_append, zb_0, zb_1, zem, z01, z11, nI_add, ↓reduceIte, not_true_eq_false, not_false_eq_true, n0T, n1F, n11T, true_or, or_true, false_or]
      · by_cases h2 : what = nI 2
        · rw [h2]
          simp only [q57_0, q57_1, q57_2, q57_3, q57_6, q57_9, q57_10, q57_11, q57_12, q57_40, q57_41, q57_44, q57_47, q57_50, q57_51, q57_52, q57_53, q57_54, q57_57, q57_60, q57_63, q57_64, q57_65, q57_66, q57_67, q57_70, q57_73, q57_74, q57_77, q57_78, q57_79, m_isWithin, eq_true hv, isW_1, isC_2, Nat.reduceAdd, e3, ne2_0, ne2_1, zCall_some, Option.toList, List.cons_append, List.nil_append, zb_0, zb_1, zem, z01, z11, nI_add, ↓reduceIte, not_true_eq_false, not_false_eq_true, n0T, n1F, n11T, true_or, or_true, false_or]
        · simp only [q57_0, q57_1, q57_2, q57_3, q57_6, q57_9, q57_10, q57_11, q57_12, q57_40, q57_41, q57_44, q57_47, q57_50, q57_51, q57_52, q57_53, q57_54, q57_57, q57_60, q57_63, q57_64, q57_65, q57_66, q57_67, q57_70, q57_73, q57_74, q57_77, q57_78, q57_79, m_isWithin, eq_true hv, isW_1, isC_2, Nat.reduceAdd, h0, h1, h2, zCall_some, Option.toList, List.cons_append, List.nil_append, zb_0, zb_1, zem, z01, z11, nI_add, ↓reduceIte, not_true_eq_false, not_false_eq_true, n0T, n1F, n11T, true_or, or_true, false_or]
  · rw [if_neg hv]
    simp only [q57_0, q57_1, q57_2, q57_3, q57_6, q57_9, q57_10, q57_11, q57_12, q57_40, q57_41, q57_44, q57_47, q57_50, q57_51, q57_52, q57_53, q57_54, q57_57, q57_60, q57_63, q57_64, q57_65, q57_66, q57_67, q57_70, q57_73, q57_74, q57_77, q57_78, q57_79, m_isWithin, eq_false hv, zCall_some, Option.toList, List.cons_append, List.nil_append, zb_0, zb_1, zem, z01, z11, nI_add, ↓reduceIte, not_true_eq_false, not_false_eq_true, n0T, n1F, n11T, true_or, or_true, false_or]
theorem isR_k1 {r : Nat} (hr : isR r) : zKd (r + 1) = 21 := by rcases hr with rfl | rfl | rfl | rfl | rfl | rfl | rfl | rfl | rfl <;> rfl
theorem m_add {sc : Int32 × (Int32 → Int32)} {f : zF} {a : zA} {j : zJ} {d r n : Nat} {x y z : Int32} (hr : isR r) (hf : f r 3 = nI n) (hn : n ≤ zLn (r + 1)) : cf sc (d + 1) 18 [.ref r, .int x, .int y, .int z] f a j = if n < zLn (r + 1) then some (some (.int (nI (n + 1))), zuF f r 3 (nI (n + 1)), zuA (zuA (zuA a (r + 1) (nI n) x) (r + 2) (nI n) y) (r + 3) (nI n) z, j) else some (some (.int (-4)), f, a, j) := by
  have h3 := zLn_le (r + 1)
  have hl : 20 ≤ zKd (r + 1) ∧ zKd (r + 1) < 25 := by rw [isR_k1 hr]; omega
  rw [en18]
  by_cases h : n < zLn (r + 1)
  · rw [if_pos h]
    have c1 : nI n < nI (zLn (r + 1)) := nI_lt h (by omega)
    have i1 : zIx 21 (r + 1) (nI n) := ixR1 hr h
    have i2 : zIx 21 (r + 2) (nI n) := ixR2 hr h
    have i3 : zIx 21 (r + 3) (nI n) := ixR3 hr h
    simp only [q18_0, q18_1, q18_4, q18_5, q18_8, q18_9, q18_12, q18_14, q18_15, q18_16, q18_19, q18_20, q18_23, q18_24, q18_25, q18_26, q18_29, q18_30, q18_33, q18_34, q18_35, q18_36, q18_39, q18_40, q18_43, q18_44, q18_45, q18_46, q18_47, q18_50, q18_51, q18_52, q18_55, q18_56, q18_59, hr, hf, eq_true hl, c1, i1, i2, i3, zuF_eq, zCall_some, Option.toList, List.cons_append, List.nil_append, zb_0, zb_1, zem, z01, z11, nI_add, ↓reduceIte, not_true_eq_false, not_false_eq_true, n0T, n1F, n11T, true_or, or_true, false_or]
  · rw [if_neg h]
    have c1 : ¬ nI n < nI (zLn (r + 1)) := nI_nlt (by omega) (by omega)
    simp only [q18_0, q18_1, q18_4, q18_5, q18_8, q18_9, q18_12, q18_14, q18_15, q18_16, q18_19, q18_20, q18_23, q18_24, q18_25, q18_26, q18_29, q18_30, q18_33, q18_34, q18_35, q18_36, q18_39, q18_40, q18_43, q18_44, q18_45, q18_46, q18_47, q18_50, q18_51, q18_52, q18_55, q18_56, q18_59, hr, hf, eq_true hl, c1, zCall_some, Option.toList, List.cons_append, List.nil_append, zb_0, zb_1, zem, z01, z11, nI_add, ↓reduceIte, not_true_eq_false, not_false_eq_true, n0T, n1F, n11T, true_or, or_true, false_or]
def tdU (σ : Nat → Nat) (x y h : Nat) : Nat → Nat := zup (zup (zup (zup σ (40 + σ 4) x) (52 + σ 4) y) (64 + σ 4) h) 4 (σ 4 + 1)
def tdS (σ : Nat → Nat) (x y h : Int32) : Int32 × (Nat → Nat) := if zHas x (σ 0) ∧ zHas y (σ 0) ∧ ¬ x = y then (if zBtw h 1 96 then (if σ (32 + x.toNatClampNeg) ≠ 1 ∧ σ (32 + y.toNatClampNeg) ≠ 1 ∧ h.toNatClampNeg ≤ hvOf σ (σ 3) true x.toNatClampNeg then (if σ 4 < 12 then (nI (σ 4 + 1), tdU σ x.toNatClampNeg y.toNatClampNeg h.toNatClampNeg) else (-4, σ)) else (-3, σ)) else (-2, σ)) else (-1, σ)
theorem tdU_ne {σ : Nat → Nat} {x y h i : Nat} (h4 : i ≠ 4) (h1 : i ≠ 40 + σ 4) (h2 : i ≠ 52 + σ 4) (h3 : i ≠ 64 + σ 4) : tdU σ x y h i = σ i := by unfold tdU; rw [zup_ne h4, zup_ne h3, zup_ne h2, zup_ne h1]
theorem tdU_4 {σ : Nat → Nat} {x y h : Nat} : tdU σ x y h 4 = σ 4 + 1 := zup_eq
theorem tdU_40 {σ : Nat → Nat} {x y h : Nat} (h4 : σ 4 < 12) : tdU σ x y h (40 + σ 4) = x ∧ tdU σ x y h (52 + σ 4) = y ∧ tdU σ x y h (64 + σ 4) = h := by
  unfold tdU
  rw [zup_ne (by omega), zup_ne (by omega), zup_ne (by omega), zup_eq, zup_ne (by omega), zup_ne (by omega), zup_eq, zup_ne (by omega), zup_eq]
  exact ⟨rfl, rfl, rfl⟩
theorem td_wr {σ : Nat → Nat} {f : zF} {a : zA} {x y h : Nat} (hW : WR 1 σ f a) (hV : VS σ) (hx : x < σ 0) (hy : y < σ 0) (hh : h ≤ hvOf σ (σ 3) true x) (h4 : σ 4 < 12) : WR 1 (tdU σ x y h) (zuF f 7 3 (nI (σ 4 + 1))) (zuA (zuA (zuA a 8 (nI (σ 4)) (nI x)) 9 (nI (σ 4)) (nI y)) 10 (nI (σ 4)) (nI h)) ∧ VS (tdU σ x y h) := by
  obtain ⟨v1, ⟨v2, v2'⟩, ⟨v3, v4⟩, ⟨v5, v6⟩, ⟨v7, v8⟩⟩ := hV
  have hn := v1.1.1
  have e : ∀ i, i ≠ 4 → i ≠ 40 + σ 4 → i ≠ 52 + σ 4 → i ≠ 64 + σ 4 → tdU σ x y h i = σ i := fun i q1 q2 q3 q4 => tdU_ne q1 q2 q3 q4
  have e' : ∀ i, (i < 4 ∨ (5 ≤ i ∧ i < 40) ∨ 76 ≤ i) → tdU σ x y h i = σ i := fun i q => tdU_ne (by omega) (by omega) (by omega) (by omega)
  obtain ⟨t1, t2, t3⟩ := tdU_40 (x := x) (y := y) (h := h) h4
  have hA : Agr σ (tdU σ x y h) := fun i hi => e' i (by omega)
  have hT : ∀ k, k ≤ σ 4 → ∀ g, g < 8 → hvT (tdU σ x y h) (σ 3) k g = hvT σ (σ 3) k g := fun k hk => g_hvT hA v1.1 (σ 3) k (fun i hi => by
    have := v2' i (by omega)
    exact ⟨e _ (by omega) (by omega) (by omega) (by omega), e _ (by omega) (by omega) (by omega) (by omega), e _ (by omega) (by omega) (by omega) (by omega), by omega, by omega⟩)
  obtain ⟨⟨k1, k2, k3, k4, k5, k6⟩, k7, k8, k9, k10⟩ := hW
  have fo : ∀ k, k ≠ 7 → zuF f 7 3 (nI (σ 4 + 1)) k = f k := fun k hk => zuF_nk hk
  have ao : ∀ k, (k < 8 ∨ 10 < k) → zuA (zuA (zuA a 8 (nI (σ 4)) (nI x)) 9 (nI (σ 4)) (nI y)) 10 (nI (σ 4)) (nI h) k = a k := fun k hk => by rw [zuA_nk (by omega), zuA_nk (by omega), zuA_nk (by omega)]
  refine ⟨⟨?_, ?_, k8.of (e' _ (by omega)) (fun k _ => ⟨e' _ (by omega), e' _ (by omega)⟩) (fo _ (by omega)) (ao _ (by omega)) (ao _ (by omega)), k9.of (e' _ (by omega)) (fun k _ => ⟨e' _ (by omega), e' _ (by omega)⟩) (fo _ (by omega)) (ao _ (by omega)) (ao _ (by omega)), k10.of (e' _ (by omega)) (fun k _ => ⟨e' _ (by omega), e' _ (by omega)⟩) (fo _ (by omega)) (ao _ (by omega)) (ao _ (by omega))⟩, VC.cong hA v1, ?_, ?_, ?_, ?_⟩
  · unfold CR0
    rw [e' 0 (by omega), tdU_4, fo (1 + 1) (by omega), ao (1 + 1 + 1) (by omega), ao (1 + 1 + 2) (by omega), ao (1 + 1 + 3) (by omega), ao (1 + 1 + 4) (by omega)]
    refine ⟨k1, fun g hg => ?_, fun r hr => ?_, fun g hg => ?_, zuF_eq, fun k hk => ?_⟩
    · rw [e' (32 + g) (by omega)]; exact k2 g hg
    · rw [e' (8 + r) (by omega), e' (12 + r) (by omega)]; exact k3 r hr
    · rw [e' (16 + g) (by omega), e' (24 + g) (by omega)]; exact k4 g hg
    · by_cases q : k = σ 4
      · rw [q, t1, t2, t3]
        refine ⟨?_, ?_, zuA_eq⟩
        · rw [zuA_nk (by omega), zuA_nk (by omega)]; exact zuA_eq
        · rw [zuA_nk (by omega)]; exact zuA_eq
      · have q' : nI k ≠ nI (σ 4) := nI_ne (by omega) (by omega) q
        rw [zuA_ni q', zuA_ni q', zuA_ni q', zuA_ni q', zuA_ni q', zuA_ni q', zuA_ni q', zuA_ni q', zuA_ni q', e (40 + k) (by omega) (by omega) (by omega) (by omega), e (52 + k) (by omega) (by omega) (by omega) (by omega), e (64 + k) (by omega) (by omega) (by omega) (by omega)]
        exact k6 k (by omega)
  · rw [e' 1 (by omega), e' 2 (by omega), e' 3 (by omega), fo (1 + 1) (by omega)]; exact k7
  · unfold TrOK
    rw [tdU_4, e' 3 (by omega), e' 0 (by omega)]
    refine ⟨by omega, fun k hk => ?_⟩
    by_cases q : k = σ 4
    · rw [q, t1, t2, t3, hT _ (Nat.le_refl _) x (by omega)]
      exact ⟨hx, hy, hh⟩
    · have := v2' k (by omega)
      rw [e (40 + k) (by omega) (by omega) (by omega) (by omega), e (52 + k) (by omega) (by omega) (by omega) (by omega), e (64 + k) (by omega) (by omega) (by omega) (by omega), hT k (by omega) _ (by omega)]
      exact this
  · rw [e' 5 (by omega), e' 0 (by omega)]
    refine ⟨v3, fun k hk => ?_⟩
    rw [e' (76 + k) (by omega), e' (81 + k) (by omega)]; exact v4 k hk
  · rw [e' 6 (by omega), e' 0 (by omega)]
    refine ⟨v5, fun k hk => ?_⟩
    rw [e' (86 + k) (by omega), e' (94 + k) (by omega)]; exact v6 k hk
  · rw [e' 7 (by omega), e' 0 (by omega)]
    refine ⟨v7, fun k hk => ?_⟩
    rw [e' (102 + k) (by omega), e' (110 + k) (by omega)]; exact v8 k hk
theorem x_trade {sc : Int32 × (Int32 → Int32)} {f : zF} {a : zA} {j : zJ} {d : Nat} {σ : Nat → Nat} {x y h : Int32} (hW : WR 1 σ f a) (hV : VS σ) : ∃ (f' : zF) (a' : zA), cf sc (d + 7) 70 [.ref 0, .int x, .int y, .int h] f a j = some (some (.int (tdS σ x y h).1), f', a', j) ∧ WR 1 (tdS σ x y h).2 f' a' ∧ VS (tdS σ x y h).2 ∧ FrW f f' a a' := by
  have hVR := hV.1.1
  have hn := hVR.1
  have hF : ∀ v : Int32, cf sc (d + 6) 2 [.ref 2, .int v] f a j = some (some (.int (zb (zHas v (σ 0)))), f, a, j) := fun v => m_hasField (d := d + 4) isC_2 hW.1.1 hn
  rw [en70]
  unfold tdS
  by_cases hx : zHas x (σ 0)
  · by_cases hy : zHas y (σ 0)
    · by_cases hxy : x = y
      · rw [if_neg (fun q => q.2.2 hxy)]
        refine ⟨f, a, ?_, hW, hV, FrW.rf⟩
        simp only [q70_0, q70_1, q70_4, q70_7, q70_9, q70_11, q70_12, q70_15, q70_18, q70_20, q70_21, q70_24, q70_27, q70_28, q70_29, q70_32, q70_33, q70_34, q70_35, q70_36, q70_38, q70_41, q70_44, q70_46, q70_47, q70_49, q70_50, q70_53, q70_56, q70_58, q70_59, q70_62, q70_65, q70_66, q70_69, q70_70, q70_73, q70_74, q70_77, q70_79, q70_80, q70_82, q70_85, q70_86, q70_87, q70_88, q70_91, isW_1, isC_2, Nat.reduceAdd, hF, eq_true hx, eq_true hy, eq_true hxy, zCall_some, Option.toList, List.cons_append, List.nil_append, zb_0, zb_1, zem, z01, z11, nI_add, ↓reduceIte, not_true_eq_false, not_false_eq_true, n0T, n1F, n11T, true_or, or_true, false_or]
      · rw [if_pos ⟨hx, hy, hxy⟩]
        by_cases hh : zBtw h 1 96
        · rw [if_pos hh]
          obtain ⟨p, hp, rfl⟩ := zHas_of (by omega) hx
          obtain ⟨q, hq, rfl⟩ := zHas_of (by omega) hy
          obtain ⟨m, m1, m2, rfl⟩ := zBtw_of (by omega) (by omega) hh
          rw [nI_clamp (n := p) (by omega), nI_clamp (n := q) (by omega), nI_clamp (n := m) (by omega)]
          have hA1 := m_isAway (sc := sc) (d := d + 4) (f := f) (a := a) (j := j) isC_2 hVR hW.1 hp
          have hA2 := m_isAway (sc := sc) (d := d + 4) (f := f) (a := a) (j := j) isC_2 hVR hW.1 hq
          by_cases w1 : σ (32 + p) = 1
          · rw [if_neg (fun z => z.1 w1)]
            refine ⟨f, a, ?_, hW, hV, FrW.rf⟩
            simp only [q70_0, q70_1, q70_4, q70_7, q70_9, q70_11, q70_12, q70_15, q70_18, q70_20, q70_21, q70_24, q70_27, q70_28, q70_29, q70_32, q70_33, q70_34, q70_35, q70_36, q70_38, q70_41, q70_44, q70_46, q70_47, q70_49, q70_50, q70_53, q70_56, q70_58, q70_59, q70_62, q70_65, q70_66, q70_69, q70_70, q70_73, q70_74, q70_77, q70_79, q70_80, q70_82, q70_85, q70_86, q70_87, q70_88, q70_91, isW_1, isC_2, Nat.reduceAdd, hF, m_isWithin, eq_true hx, eq_true hy, hxy, eq_true hh, hA1, w1, zCall_some, Option.toList, List.cons_append, List.nil_append, zb_0, zb_1, zem, z01, z11, nI_add, ↓reduceIte, not_true_eq_false, not_false_eq_true, n0T, n1F, n11T, true_or, or_true, false_or]
          · by_cases w2 : σ (32 + q) = 1
            · rw [if_neg (fun z => z.2.1 w2)]
              refine ⟨f, a, ?_, hW, hV, FrW.rf⟩
              simp only [q70_0, q70_1, q70_4, q70_7, q70_9, q70_11, q70_12, q70_15, q70_18, q70_20, q70_21, q70_24, q70_27, q70_28, q70_29, q70_32, q70_33, q70_34, q70_35, q70_36, q70_38, q70_41, q70_44, q70_46, q70_47, q70_49, q70_50, q70_53, q70_56, q70_58, q70_59, q70_62, q70_65, q70_66, q70_69, q70_70, q70_73, q70_74, q70_77, q70_79, q70_80, q70_82, q70_85, q70_86, q70_87, q70_88, q70_91, isW_1, isC_2, Nat.reduceAdd, hF, m_isWithin, eq_true hx, eq_true hy, hxy, eq_true hh, hA1, hA2, w1, w2, zCall_some, Option.toList, List.cons_append, List.nil_append, zb_0, zb_1, zem, z01, z11, nI_add, ↓reduceIte, not_true_eq_false, not_false_eq_true, n0T, n1F, n11T, true_or, or_true, false_or]
            · obtain ⟨f1, a1, t1, t2, t3⟩ := m_turnsNow (sc := sc) (d := d) (j := j) hW hV
              have hW1 := hW.fr isW_1 t3
              have h97 := hv_97 hVR (tr := true) (fun _ => hV.2.1) hp
              by_cases w3 : m ≤ hvOf σ (σ 3) true p
              · rw [if_pos ⟨w1, w2, w3⟩]
                have c1 : nI m ≤ nI (hvOf σ (σ 3) true p) := nI_le w3 (by omega)
                have h12 := hV.2.1.1
                have hadd := m_add (sc := sc) (d := d + 5) (f := f1) (a := a1) (j := j) (r := 7) (n := σ 4) (x := nI p) (y := nI q) (z := nI m) isR_7 hW1.1.2.2.2.2.1 h12
                by_cases w4 : σ 4 < 12
                · rw [if_pos w4]
                  rw [if_pos (show σ 4 < zLn (7 + 1) from w4)] at hadd
                  obtain ⟨r1, r2⟩ := td_wr (x := p) (y := q) (h := m) hW1 hV hp hq w3 w4
                  refine ⟨_, _, ?_, r1, r2, t3.w.tr ⟨fun k hk => by rw [zuF_nk (by omega)], fun k hk => by rw [zuA_nk (by omega), zuA_nk (by omega), zuA_nk (by omega)]⟩⟩
                  simp only [q70_0, q70_1, q70_4, q70_7, q70_9, q70_11, q70_12, q70_15, q70_18, q70_20, q70_21, q70_24, q70_27, q70_28, q70_29, q70_32, q70_33, q70_34, q70_35, q70_36, q70_38, q70_41, q70_44, q70_46, q70_47, q70_49, q70_50, q70_53, q70_56, q70_58, q70_59, q70_62, q70_65, q70_66, q70_69, q70_70, q70_73, q70_74, q70_77, q70_79, q70_80, q70_82, q70_85, q70_86, q70_87, q70_88, q70_91, isW_1, isC_2, Nat.reduceAdd, hF, m_isWithin, eq_true hx, eq_true hy, hxy, eq_true hh, hA1, hA2, w1, w2, t1, m_hvOf hVR t2 hp, c1, isR_7, hadd, zCall_some, Option.toList, List.cons_append, List.nil_append, zb_0, zb_1, zem, z01, z11, nI_add, ↓reduceIte, not_true_eq_false, not_false_eq_true, n0T, n1F, n11T, true_or, or_true, false_or]
                · rw [if_neg w4]
                  rw [if_neg (show ¬ σ 4 < zLn (7 + 1) from w4)] at hadd
                  refine ⟨f1, a1, ?_, hW1, hV, t3.w⟩
                  simp only [q70_0, q70_1, q70_4, q70_7, q70_9, q70_11, q70_12, q70_15, q70_18, q70_20, q70_21, q70_24, q70_27, q70_28, q70_29, q70_32, q70_33, q70_34, q70_35, q70_36, q70_38, q70_41, q70_44, q70_46, q70_47, q70_49, q70_50, q70_53, q70_56, q70_58, q70_59, q70_62, q70_65, q70_66, q70_69, q70_70, q70_73, q70_74, q70_77, q70_79, q70_80, q70_82, q70_85, q70_86, q70_87, q70_88, q70_91, isW_1, isC_2, Nat.reduceAdd, hF, m_isWithin, eq_true hx, eq_true hy, hxy, eq_true hh, hA1, hA2, w1, w2, t1, m_hvOf hVR t2 hp, c1, isR_7, hadd, zCall_some, Option.toList, List.cons_append, List.nil_append, zb_0, zb_1, zem, z01, z11, nI_add, ↓reduceIte, not_true_eq_false, not_false_eq_true, n0T, n1F, n11T, true_or, or_true, false_or]
              · rw [if_neg (fun z => w3 z.2.2)]
                have c1 : ¬ nI m ≤ nI (hvOf σ (σ 3) true p) := nI_ge (by omega) (by omega)
                refine ⟨f1, a1, ?_, hW1, hV, t3.w⟩
                simp only [q70_0, q70_1, q70_4, q70_7, q70_9, q70_11, q70_12, q70_15, q70_18, q70_20, q70_21, q70_24, q70_27, q70_28, q70_29, q70_32, q70_33, q70_34, q70_35, q70_36, q70_38, q70_41, q70_44, q70_46, q70_47, q70_49, q70_50, q70_53, q70_56, q70_58, q70_59, q70_62, q70_65, q70_66, q70_69, q70_70, q70_73, q70_74, q70_77, q70_79, q70_80, q70_82, q70_85, q70_86, q70_87, q70_88, q70_91, isW_1, isC_2, Nat.reduceAdd, hF, m_isWithin, eq_true hx, eq_true hy, hxy, eq_true hh, hA1, hA2, w1, w2, t1, m_hvOf hVR t2 hp, c1, zCall_some, Option.toList, List.cons_append, List.nil_append, zb_0, zb_1, zem, z01, z11, nI_add, ↓reduceIte, not_true_eq_false, not_false_eq_true, n0T, n1F, n11T, true_or, or_true, false_or]
        · rw [if_neg hh]
          refine ⟨f, a, ?_, hW, hV, FrW.rf⟩
          simp only [q70_0, q70_1, q70_4, q70_7, q70_9, q70_11, q70_12, q70_15, q70_18, q70_20, q70_21, q70_24, q70_27, q70_28, q70_29, q70_32, q70_33, q70_34, q70_35, q70_36, q70_38, q70_41, q70_44, q70_46, q70_47, q70_49, q70_50, q70_53, q70_56, q70_58, q70_59, q70_62, q70_65, q70_66, q70_69, q70_70, q70_73, q70_74, q70_77, q70_79, q70_80, q70_82, q70_85, q70_86, q70_87, q70_88, q70_91, isW_1, isC_2, Nat.reduceAdd, hF, m_isWithin, eq_true hx, eq_true hy, hxy, eq_false hh, zCall_some, Option.toList, List.cons_append, List.nil_append, zb_0, zb_1, zem, z01, z11, nI_add, ↓reduceIte, not_true_eq_false, not_false_eq_true, n0T, n1F, n11T, true_or, or_true, false_or]
    · rw [if_neg (fun q => hy q.2.1)]
      refine ⟨f, a, ?_, hW, hV, FrW.rf⟩
      simp only [q70_0, q70_1, q70_4, q70_7, q70_9, q70_11, q70_12, q70_15, q70_18, q70_20, q70_21, q70_24, q70_27, q70_28, q70_29, q70_32, q70_33, q70_34, q70_35, q70_36, q70_38, q70_41, q70_44, q70_46, q70_47, q70_49, q70_50, q70_53, q70_56, q70_58, q70_59, q70_62, q70_65, q70_66, q70_69, q70_70, q70_73, q70_74, q70_77, q70_79, q70_80, q70_82, q70_85, q70_86, q70_87, q70_88, q70_91, isW_1, isC_2, Nat.reduceAdd, hF, eq_true hx, eq_false hy, zCall_some, Option.toList, List.cons_append, List.nil_append, zb_0, zb_1, zem, z01, z11, nI_add, ↓reduceIte, not_true_eq_false, not_false_eq_true, n0T, n1F, n11T, true_or, or_true, false_or]
  · rw [if_neg (fun q => hx q.1)]
    refine ⟨f, a, ?_, hW, hV, FrW.rf⟩
    simp only [q70_0, q70_1, q70_4, q70_7, q70_9, q70_11, q70_12, q70_15, q70_18, q70_20, q70_21, q70_24, q70_27, q70_28, q70_29, q70_32, q70_33, q70_34, q70_35, q70_36, q70_38, q70_41, q70_44, q70_46, q70_47, q70_49, q70_50, q70_53, q70_56, q70_58, q70_59, q70_62, q70_65, q70_66, q70_69, q70_70, q70_73, q70_74, q70_77, q70_79, q70_80, q70_82, q70_85, q70_86, q70_87, q70_88, q70_91, isW_1, isC_2, Nat.reduceAdd, hF, eq_false hx, zCall_some, Option.toList, List.cons_append, List.nil_append, zb_0, zb_1, zem, z01, z11, nI_add, ↓reduceIte, not_true_eq_false, not_false_eq_true, n0T, n1F, n11T, true_or, or_true, false_or]
