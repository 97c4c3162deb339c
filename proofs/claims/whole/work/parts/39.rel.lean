/-! ===== the class's cells hold a state ===== -/
def RW (r cnt p q : Nat) (σ : Nat → Nat) (f : zF) (a : zA) : Prop := f r 3 = nI (σ cnt) ∧ ∀ k, k < σ cnt → a (r + 1) (nI k) = nI (σ (p + k)) ∧ a (r + 2) (nI k) = nI (σ (q + k))
def WR (w : Nat) (σ : Nat → Nat) (f : zF) (a : zA) : Prop := CR0 (w + 1) σ f a ∧ (f (w + 1) 7 = nI (σ 1) ∧ f (w + 1) 8 = nI (σ 3) ∧ f (w + 1) 9 = nI (σ 2)) ∧ RW (w + 10) 5 76 81 σ f a ∧ RW (w + 14) 6 86 94 σ f a ∧ RW (w + 18) 7 102 110 σ f a
/-- a row of the PLAN -/
def PlOK (n w x : Nat) : Prop := w ≤ 3 ∧ (w = 0 → x < n) ∧ (w = 1 → x ≤ 52) ∧ (w = 2 → x ≤ 3) ∧ (w = 3 → 8 ≤ x ∧ x ≤ 96)
/-- σ is within its bounds -/
def VS (σ : Nat → Nat) : Prop := (VR σ ∧ 8 ≤ σ 1 ∧ σ 1 ≤ 96 ∧ σ 2 ≤ 3 ∧ σ 3 ≤ 999) ∧ TrOK σ (σ 3) ∧ (σ 5 ≤ 5 ∧ ∀ k, k < σ 5 → σ (76 + k) < σ 0 ∧ σ (81 + k) ≤ 96) ∧ (σ 6 ≤ 8 ∧ ∀ k, k < σ 6 → PlOK (σ 0) (σ (86 + k)) (σ (94 + k))) ∧ (σ 7 ≤ 8 ∧ ∀ k, k < σ 7 → σ (102 + k) < σ 0 ∧ σ (110 + k) ≤ 96)
theorem CR0.up {c : Nat} {σ τ : Nat → Nat} {f : zF} {a : zA} (h : CR0 c σ f a) (e : ∀ i, i ≠ 1 → i ≠ 2 → i ≠ 3 → τ i = σ i) : CR0 c τ f a := by
  obtain ⟨h1, h2, h3, h4, h5, h6⟩ := h
  have e0 : τ 0 = σ 0 := e 0 (by omega) (by omega) (by omega)
  have e4 : τ 4 = σ 4 := e 4 (by omega) (by omega) (by omega)
  refine ⟨by rw [e0]; exact h1, fun g hg => ?_, fun r hr => ?_, fun g hg => ?_, by rw [e4]; exact h5, fun k hk => ?_⟩
  · rw [e0] at hg
    rw [e (32 + g) (by omega) (by omega) (by omega)]
    exact h2 g hg
  · rw [e (8 + r) (by omega) (by omega) (by omega), e (12 + r) (by omega) (by omega) (by omega)]
    exact h3 r hr
  · rw [e0] at hg
    rw [e (16 + g) (by omega) (by omega) (by omega), e (24 + g) (by omega) (by omega) (by omega)]
    exact h4 g hg
  · rw [e4] at hk
    rw [e (40 + k) (by omega) (by omega) (by omega), e (52 + k) (by omega) (by omega) (by omega), e (64 + k) (by omega) (by omega) (by omega)]
    exact h6 k hk
theorem VR.up {σ τ : Nat → Nat} (h : VR σ) (e : ∀ i, i ≠ 1 → i ≠ 2 → i ≠ 3 → τ i = σ i) (h1 : τ 1 ≤ 97) : VR τ := by
  have e0 : τ 0 = σ 0 := e 0 (by omega) (by omega) (by omega)
  refine ⟨by rw [e0]; exact h.1, h1, fun g hg => ?_, fun r hr => ?_⟩
  · rw [e0] at hg
    rw [e (16 + g) (by omega) (by omega) (by omega), e (24 + g) (by omega) (by omega) (by omega), e (32 + g) (by omega) (by omega) (by omega)]
    exact h.2.2.1 g hg
  · rw [e (8 + r) (by omega) (by omega) (by omega), e (12 + r) (by omega) (by omega) (by omega)]
    exact h.2.2.2 r hr
theorem isC_2 : isC 2 := Or.inl rfl
theorem isC_24 : isC 24 := Or.inr (Or.inl rfl)
theorem isC_45 : isC 45 := Or.inr (Or.inr rfl)
theorem isW_1 : isW 1 := Or.inl rfl
theorem isW_23 : isW 23 := Or.inr rfl
theorem CR0_2 {w : Nat} {σ : Nat → Nat} {f : zF} {a : zA} (h : WR w σ f a) : CR0 (w + 1) σ f a := h.1
/-- the cells of the Turns alone have changed -/
def FrT (f f' : zF) (a a' : zA) : Prop := (∀ k, k ≠ 54 → f' k = f k) ∧ ∀ k, (k < 55 ∨ 64 < k) → a' k = a k
theorem FrT.rf {f : zF} {a : zA} : FrT f f a a := ⟨fun _ _ => rfl, fun _ _ => rfl⟩
theorem FrT.tr {f f1 f2 : zF} {a a1 a2 : zA} (h : FrT f f1 a a1) (g : FrT f1 f2 a1 a2) : FrT f f2 a a2 := ⟨fun k hk => (g.1 k hk).trans (h.1 k hk), fun k hk => (g.2 k hk).trans (h.2 k hk)⟩
theorem WR.of {w : Nat} {σ : Nat → Nat} {f f' : zF} {a a' : zA} (hw : isW w) (h : WR w σ f a) (hf : ∀ k, k < 54 → f' k = f k) (ha : ∀ k, k < 54 → a' k = a k) : WR w σ f' a' := by
  have h9 : w + 22 < 54 := by rcases hw with rfl | rfl <;> decide
  obtain ⟨h1, h2, h3, h4, h5⟩ := h
  refine ⟨h1.of (by rcases hw with rfl | rfl <;> simp [isC]) hf ha, by rw [hf (w + 1) (by omega)]; exact h2, ?_, ?_, ?_⟩
  · unfold RW at h3 ⊢
    rw [hf _ (by omega), ha _ (by omega), ha _ (by omega)]
    exact h3
  · unfold RW at h4 ⊢
    rw [hf _ (by omega), ha _ (by omega), ha _ (by omega)]
    exact h4
  · unfold RW at h5 ⊢
    rw [hf _ (by omega), ha _ (by omega), ha _ (by omega)]
    exact h5
theorem WR.fr {w : Nat} {σ : Nat → Nat} {f f' : zF} {a a' : zA} (hw : isW w) (h : WR w σ f a) (e : FrT f f' a a') : WR w σ f' a' := h.of hw (fun k hk => e.1 k (by omega)) (fun k hk => e.2 k (by omega))
theorem m_turnsNow {sc : Int32 × (Int32 → Int32)} {f : zF} {a : zA} {j : zJ} {d : Nat} {σ : Nat → Nat} (hW : WR 1 σ f a) (hV : VS σ) : ∃ (f' : zF) (a' : zA), cf sc (d + 6) 99 [.ref 0] f a j = some (some (.ref 54), f', a', j) ∧ TuO σ (σ 3) true f' a' ∧ FrT f f' a a' := by
  obtain ⟨⟨hVR, v1, v2, v3, v4⟩, v5, -⟩ := hV
  obtain ⟨f', a', h1, h2, h3, h4⟩ := m_workOut (sc := sc) (d := d) (f := f) (a := a) (j := j) (c := 2) (w := σ 3) (tr := true) isC_2 hVR (by omega) v3 hW.1 (fun _ => v5)
  refine ⟨f', a', ?_, h2, h4, fun k hk => h3 k (by omega)⟩
  have e1 : f 2 7 = nI (σ 1) := hW.2.1.1
  have e2 : f 2 8 = nI (σ 3) := hW.2.1.2.1
  have e3 : f 2 9 = nI (σ 2) := hW.2.1.2.2
  rw [if_pos rfl] at h1
  rw [en99]
  simp only [q99_0, q99_1, q99_4, q99_7, q99_8, q99_9, q99_12, q99_13, q99_14, q99_17, q99_18, q99_21, q99_22, q99_25, q99_26, q99_29, q99_30, q99_33, isW_1, isC_2, Nat.reduceAdd, e1, e2, e3, h1, zCall_some, Option.toList, List.cons_append, List.nil_append, zb_0, zb_1, zem, z01, z11, nI_add, ↓reduceIte, not_true_eq_false, not_false_eq_true, n0T, n1F, n11T, true_or, or_true, false_or]
theorem m_turnsWere64 {sc : Int32 × (Int32 → Int32)} {f : zF} {a : zA} {j : zJ} {d h : Nat} {σ : Nat → Nat} (hW : WR 1 σ f a) (hV : VS σ) (hh : h ≤ 97) : ∃ (f' : zF) (a' : zA), cf sc (d + 6) 100 [.ref 0, .int (nI h)] f a j = some (some (.ref 54), f', a', j) ∧ TuO (zup σ 1 h) (σ 3) false f' a' ∧ FrT f f' a a' ∧ a' 64 = a 64 := by
  obtain ⟨⟨hVR, v1, v2, v3, v4⟩, v5, -⟩ := hV
  have eu : ∀ i, i ≠ 1 → i ≠ 2 → i ≠ 3 → zup σ 1 h i = σ i := fun i q _ _ => zup_ne q
  obtain ⟨f', a', h1, h2, h3, h4⟩ := m_workOut (sc := sc) (d := d) (f := f) (a := a) (j := j) (c := 2) (w := σ 3) (tr := false) (σ := zup σ 1 h) isC_2 (hVR.up eu (by rw [zup_eq]; exact hh)) (by omega) (by rw [zup_ne (by omega)]; exact v3) (hW.1.up eu) (fun q => by cases q)
  refine ⟨f', a', ?_, h2, ⟨h4, fun k hk => h3 k (by omega)⟩, h3 64 (by omega)⟩
  have e2 : f 2 8 = nI (σ 3) := hW.2.1.2.1
  have e3 : f 2 9 = nI (σ 2) := hW.2.1.2.2
  rw [if_neg (by decide), zup_eq, zup_ne (by omega)] at h1
  rw [en100]
  simp only [q100_0, q100_1, q100_4, q100_7, q100_8, q100_9, q100_12, q100_13, q100_14, q100_17, q100_18, q100_19, q100_22, q100_23, q100_26, q100_27, q100_30, isW_1, isC_2, Nat.reduceAdd, e2, e3, h1, zCall_some, Option.toList, List.cons_append, List.nil_append, zb_0, zb_1, zem, z01, z11, nI_add, ↓reduceIte, not_true_eq_false, not_false_eq_true, n0T, n1F, n11T, true_or, or_true, false_or]
theorem m_turnsWere {sc : Int32 × (Int32 → Int32)} {f : zF} {a : zA} {j : zJ} {d h : Nat} {σ : Nat → Nat} (hW : WR 1 σ f a) (hV : VS σ) (hh : h ≤ 97) : ∃ (f' : zF) (a' : zA), cf sc (d + 6) 100 [.ref 0, .int (nI h)] f a j = some (some (.ref 54), f', a', j) ∧ TuO (zup σ 1 h) (σ 3) false f' a' ∧ FrT f f' a a' := by
  obtain ⟨f', a', h1, h2, h3, -⟩ := m_turnsWere64 (sc := sc) (d := d) (j := j) hW hV hh
  exact ⟨f', a', h1, h2, h3⟩
theorem m_hasField {sc : Int32 × (Int32 → Int32)} {f : zF} {a : zA} {j : zJ} {d c n : Nat} (hc : isC c) {v : Int32} (hn : f c 6 = nI n) (h8 : n ≤ 8) : cf sc (d + 2) 2 [.ref c, .int v] f a j = some (some (.int (zb (zHas v n))), f, a, j) := by
  rw [en2]
  have e := zb_iff (has_iff (v := v) (n := n) (by omega))
  simp only [q2_0, q2_1, q2_2, q2_3, q2_6, q2_7, q2_8, q2_11, hc, hn, m_isWithin, e, zCall_some, Option.toList, List.cons_append, List.nil_append, zb_0, zb_1, zem, z01, z11, nI_add, ↓reduceIte, not_true_eq_false, not_false_eq_true, n0T, n1F, n11T, true_or, or_true, false_or]
