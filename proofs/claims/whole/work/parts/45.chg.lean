/-! ===== the class: what tells a Canal anew ===== -/
def CR (c : Nat) (σ : Nat → Nat) (f : zF) (a : zA) : Prop := CR0 c σ f a ∧ (f c 7 = nI (σ 1) ∧ f c 8 = nI (σ 3) ∧ f c 9 = nI (σ 2))
def VC (σ : Nat → Nat) : Prop := VR σ ∧ 8 ≤ σ 1 ∧ σ 1 ≤ 96 ∧ σ 2 ≤ 3 ∧ σ 3 ≤ 999
def FrC (c : Nat) (f f' : zF) (a a' : zA) : Prop := (∀ k, k ≠ c → k ≠ c + 5 → f' k = f k) ∧ ∀ k, (k ≤ c ∨ c + 4 < k) → a' k = a k
def Kept (σ τ : Nat → Nat) : Prop := τ = σ ∨ (τ 4 = 0 ∧ σ 0 ≤ τ 0 ∧ ∀ i, (5 ≤ i ∧ i ≤ 7) ∨ 76 ≤ i → τ i = σ i)
/-- what a call that tells a Canal anew leaves -/
def Did (c : Nat) (σ τ : Nat → Nat) (f f' : zF) (a a' : zA) : Prop := CR c τ f' a' ∧ VC τ ∧ FrC c f f' a a' ∧ Kept σ τ
theorem FrC.rf {c : Nat} {f : zF} {a : zA} : FrC c f f a a := ⟨fun _ _ _ => rfl, fun _ _ => rfl⟩
theorem Did.rf {c : Nat} {σ : Nat → Nat} {f : zF} {a : zA} (hR : CR c σ f a) (hV : VC σ) : Did c σ σ f f a a := ⟨hR, hV, FrC.rf, Or.inl rfl⟩
theorem CR0.fs {c i : Nat} {σ : Nat → Nat} {f : zF} {a : zA} {x : Int32} (hR : CR0 c σ f a) (h5 : 7 ≤ i) : CR0 c σ (zuF f c i x) a := by
  unfold CR0 at hR ⊢
  rw [zuF_ni (by omega), zuF_ni (by omega), zuF_nk (by omega)]
  exact hR
theorem CR.cut {c : Nat} {σ : Nat → Nat} {f : zF} {a : zA} (hR : CR c σ f a) : CR c (zup σ 4 0) (zuF f (c + 5) 3 (nI 0)) a := by
  obtain ⟨⟨h1, h2, h3, h4, h5, h6⟩, h7⟩ := hR
  have e : ∀ i, i ≠ 4 → zup σ 4 0 i = σ i := fun i h => zup_ne h
  unfold CR CR0
  rw [zuF_nk (show c ≠ c + 5 by omega), zuF_eq, zup_eq, e 0 (by omega), e 1 (by omega), e 2 (by omega), e 3 (by omega)]
  refine ⟨⟨h1, fun g hg => ?_, fun r hr => ?_, fun g hg => ?_, rfl, fun k hk => by omega⟩, h7⟩
  · rw [e (32 + g) (by omega)]; exact h2 g hg
  · rw [e (8 + r) (by omega), e (12 + r) (by omega)]; exact h3 r hr
  · rw [e (16 + g) (by omega), e (24 + g) (by omega)]; exact h4 g hg
theorem CR.s7 {c h : Nat} {σ : Nat → Nat} {f : zF} {a : zA} (hR : CR c σ f a) : CR c (zup σ 1 h) (zuF f c 7 (nI h)) a := by
  obtain ⟨h0, h7⟩ := hR
  exact ⟨(h0.up (fun i q1 q2 q3 => zup_ne (by omega))).fs (by omega), by rw [zuF_eq, zup_eq], by rw [zuF_ni (by omega), zup_ne (by omega)]; exact h7.2.1, by rw [zuF_ni (by omega), zup_ne (by omega)]; exact h7.2.2⟩
theorem CR.s8 {c h : Nat} {σ : Nat → Nat} {f : zF} {a : zA} (hR : CR c σ f a) : CR c (zup σ 3 h) (zuF f c 8 (nI h)) a := by
  obtain ⟨h0, h7⟩ := hR
  exact ⟨(h0.up (fun i q1 q2 q3 => zup_ne (by omega))).fs (by omega), by rw [zuF_ni (by omega), zup_ne (by omega)]; exact h7.1, by rw [zuF_eq, zup_eq], by rw [zuF_ni (by omega), zup_ne (by omega)]; exact h7.2.2⟩
theorem CR.s9 {c h : Nat} {σ : Nat → Nat} {f : zF} {a : zA} (hR : CR c σ f a) : CR c (zup σ 2 h) (zuF f c 9 (nI h)) a := by
  obtain ⟨h0, h7⟩ := hR
  exact ⟨(h0.up (fun i q1 q2 q3 => zup_ne (by omega))).fs (by omega), by rw [zuF_ni (by omega), zup_ne (by omega)]; exact h7.1, by rw [zuF_ni (by omega), zup_ne (by omega)]; exact h7.2.1, by rw [zuF_eq, zup_eq]⟩
theorem CR.a1 {c i x : Nat} {σ : Nat → Nat} {f : zF} {a : zA} (hn : σ 0 ≤ 8) (hi : i < 4) (hR : CR c σ f a) : CR c (zup σ (8 + i) x) f (zuA a (c + 1) (nI i) (nI x)) := by
  obtain ⟨⟨h1, h2, h3, h4, h5, h6⟩, h7⟩ := hR
  have e : ∀ k, k ≠ 8 + i → zup σ (8 + i) x k = σ k := fun k h => zup_ne h
  unfold CR CR0
  rw [e 0 (by omega), e 1 (by omega), e 2 (by omega), e 3 (by omega), e 4 (by omega)]
  refine ⟨⟨h1, fun g hg => ?_, fun r hr => ?_, fun g hg => ?_, h5, fun k hk => ?_⟩, h7⟩
  · rw [e (32 + g) (by omega)]; exact h2 g hg
  · refine ⟨?_, ?_⟩
    · by_cases q : r = i
      · rw [q, zuA_eq, zup_eq]
      · rw [zuA_ni (nI_ne (by omega) (by omega) q), e (8 + r) (by omega)]; exact (h3 r hr).1
    · rw [zuA_nk (by omega), e (12 + r) (by omega)]; exact (h3 r hr).2
  · refine ⟨?_, ?_⟩
    · rw [zuA_nk (by omega), e (16 + g) (by omega)]; exact (h4 g hg).1
    · rw [zuA_nk (by omega), e (24 + g) (by omega)]; exact (h4 g hg).2
  · rw [zuA_nk (by omega), zuA_nk (by omega), zuA_nk (by omega), e (40 + k) (by omega), e (52 + k) (by omega), e (64 + k) (by omega)]; exact h6 k hk
theorem CR.a2 {c i x : Nat} {σ : Nat → Nat} {f : zF} {a : zA} (hn : σ 0 ≤ 8) (hi : i < 4) (hR : CR c σ f a) : CR c (zup σ (12 + i) x) f (zuA a (c + 2) (nI i) (nI x)) := by
  obtain ⟨⟨h1, h2, h3, h4, h5, h6⟩, h7⟩ := hR
  have e : ∀ k, k ≠ 12 + i → zup σ (12 + i) x k = σ k := fun k h => zup_ne h
  unfold CR CR0
  rw [e 0 (by omega), e 1 (by omega), e 2 (by omega), e 3 (by omega), e 4 (by omega)]
  refine ⟨⟨h1, fun g hg => ?_, fun r hr => ?_, fun g hg => ?_, h5, fun k hk => ?_⟩, h7⟩
  · rw [e (32 + g) (by omega)]; exact h2 g hg
  · refine ⟨?_, ?_⟩
    · rw [zuA_nk (by omega), e (8 + r) (by omega)]; exact (h3 r hr).1
    · by_cases q : r = i
      · rw [q, zuA_eq, zup_eq]
      · rw [zuA_ni (nI_ne (by omega) (by omega) q), e (12 + r) (by omega)]; exact (h3 r hr).2
  · refine ⟨?_, ?_⟩
    · rw [zuA_nk (by omega), e (16 + g) (by omega)]; exact (h4 g hg).1
    · rw [zuA_nk (by omega), e (24 + g) (by omega)]; exact (h4 g hg).2
  · rw [zuA_nk (by omega), zuA_nk (by omega), zuA_nk (by omega), e (40 + k) (by omega), e (52 + k) (by omega), e (64 + k) (by omega)]; exact h6 k hk
theorem CR.a3 {c i x : Nat} {σ : Nat → Nat} {f : zF} {a : zA} (hn : σ 0 ≤ 8) (hi : i < 8) (hR : CR c σ f a) : CR c (zup σ (16 + i) x) f (zuA a (c + 3) (nI i) (nI x)) := by
  obtain ⟨⟨h1, h2, h3, h4, h5, h6⟩, h7⟩ := hR
  have e : ∀ k, k ≠ 16 + i → zup σ (16 + i) x k = σ k := fun k h => zup_ne h
  unfold CR CR0
  rw [e 0 (by omega), e 1 (by omega), e 2 (by omega), e 3 (by omega), e 4 (by omega)]
  refine ⟨⟨h1, fun g hg => ?_, fun r hr => ?_, fun g hg => ?_, h5, fun k hk => ?_⟩, h7⟩
  · rw [e (32 + g) (by omega)]; exact h2 g hg
  · refine ⟨?_, ?_⟩
    · rw [zuA_nk (by omega), e (8 + r) (by omega)]; exact (h3 r hr).1
    · rw [zuA_nk (by omega), e (12 + r) (by omega)]; exact (h3 r hr).2
  · refine ⟨?_, ?_⟩
    · by_cases q : g = i
      · rw [q, zuA_eq, zup_eq]
      · rw [zuA_ni (nI_ne (by omega) (by omega) q), e (16 + g) (by omega)]; exact (h4 g hg).1
    · rw [zuA_nk (by omega), e (24 + g) (by omega)]; exact (h4 g hg).2
  · rw [zuA_nk (by omega), zuA_nk (by omega), zuA_nk (by omega), e (40 + k) (by omega), e (52 + k) (by omega), e (64 + k) (by omega)]; exact h6 k hk
theorem CR.a4 {c i x : Nat} {σ : Nat → Nat} {f : zF} {a : zA} (hn : σ 0 ≤ 8) (hi : i < 8) (hR : CR c σ f a) : CR c (zup σ (24 + i) x) f (zuA a (c + 4) (nI i) (nI x)) := by
  obtain ⟨⟨h1, h2, h3, h4, h5, h6⟩, h7⟩ := hR
  have e : ∀ k, k ≠ 24 + i → zup σ (24 + i) x k = σ k := fun k h => zup_ne h
  unfold CR CR0
  rw [e 0 (by omega), e 1 (by omega), e 2 (by omega), e 3 (by omega), e 4 (by omega)]
  refine ⟨⟨h1, fun g hg => ?_, fun r hr => ?_, fun g hg => ?_, h5, fun k hk => ?_⟩, h7⟩
  · rw [e (32 + g) (by omega)]; exact h2 g hg
  · refine ⟨?_, ?_⟩
    · rw [zuA_nk (by omega), e (8 + r) (by omega)]; exact (h3 r hr).1
    · rw [zuA_nk (by omega), e (12 + r) (by omega)]; exact (h3 r hr).2
  · refine ⟨?_, ?_⟩
    · rw [zuA_nk (by omega), e (16 + g) (by omega)]; exact (h4 g hg).1
    · by_cases q : g = i
      · rw [q, zuA_eq, zup_eq]
      · rw [zuA_ni (nI_ne (by omega) (by omega) q), e (24 + g) (by omega)]; exact (h4 g hg).2
  · rw [zuA_nk (by omega), zuA_nk (by omega), zuA_nk (by omega), e (40 + k) (by omega), e (52 + k) (by omega), e (64 + k) (by omega)]; exact h6 k hk
theorem CR.b {c i x : Nat} {y : Int32} {σ : Nat → Nat} {f : zF} {a : zA} (hn : σ 0 ≤ 8) (hi : i < 8) (hy : ∀ g, g < 8 → bt y g = if g = i then decide (x = 1) else bt (f c 5) g) (hR : CR c σ f a) : CR c (zup σ (32 + i) x) (zuF f c 5 y) a := by
  obtain ⟨⟨h1, h2, h3, h4, h5, h6⟩, h7⟩ := hR
  have e : ∀ k, k ≠ 32 + i → zup σ (32 + i) x k = σ k := fun k h => zup_ne h
  unfold CR CR0
  rw [e 0 (by omega), e 1 (by omega), e 2 (by omega), e 3 (by omega), e 4 (by omega), zuF_nk (show c + 5 ≠ c by omega), zuF_eq, zuF_ni (by omega), zuF_ni (by omega), zuF_ni (by omega), zuF_ni (by omega)]
  refine ⟨⟨h1, fun g hg => ?_, fun r hr => ?_, fun g hg => ?_, h5, fun k hk => ?_⟩, h7⟩
  · rw [hy g (by omega)]
    by_cases q : g = i
    · rw [if_pos q, q, zup_eq]
    · rw [if_neg q, e (32 + g) (by omega)]; exact h2 g hg
  · rw [e (8 + r) (by omega), e (12 + r) (by omega)]; exact h3 r hr
  · rw [e (16 + g) (by omega), e (24 + g) (by omega)]; exact h4 g hg
  · rw [e (40 + k) (by omega), e (52 + k) (by omega), e (64 + k) (by omega)]; exact h6 k hk
theorem Kept.cut {σ τ : Nat → Nat} (h : ∀ i, i = 0 ∨ (5 ≤ i ∧ i ≤ 7) ∨ 76 ≤ i → τ i = σ i) : Kept σ (zup τ 4 0) := Or.inr ⟨zup_eq, by rw [zup_ne (by omega), h 0 (by omega)]; exact Nat.le_refl _, fun i hi => by rw [zup_ne (by omega), h i (by omega)]⟩
theorem Kept.one {σ : Nat → Nat} {p x : Nat} (h : (1 ≤ p ∧ p ≤ 3) ∨ (8 ≤ p ∧ p < 40)) : Kept σ (zup (zup σ p x) 4 0) := Kept.cut (fun i hi => zup_ne (by omega))
theorem VC.cut {σ : Nat → Nat} (h : VC σ) : VC (zup σ 4 0) := by
  have e : ∀ i, i ≠ 4 → zup σ 4 0 i = σ i := fun i h => zup_ne h
  obtain ⟨⟨h1, h2, h3, h4⟩, h5⟩ := h
  unfold VC VR
  rw [e 0 (by omega), e 1 (by omega), e 2 (by omega), e 3 (by omega)]
  refine ⟨⟨h1, h2, fun g hg => ?_, fun r hr => ?_⟩, h5⟩
  · rw [e (16 + g) (by omega), e (24 + g) (by omega), e (32 + g) (by omega)]; exact h3 g hg
  · rw [e (8 + r) (by omega), e (12 + r) (by omega)]; exact h4 r hr
/-- one number of σ is told anew -/
theorem VC.set {σ : Nat → Nat} {p x : Nat} (h : VC σ) (h0 : p ≠ 0) (h1 : p = 1 → 8 ≤ x ∧ x ≤ 96) (h2 : p = 2 → x ≤ 3) (h3 : p = 3 → x ≤ 999) (h4 : ∀ r, r < 4 → p = 8 + r → x ≤ 9) (h5 : ∀ r, r < 4 → p = 12 + r → x ≤ 25) (h6 : ∀ g, g < 8 → p = 16 + g → x < 4) (h7 : ∀ g, g < 8 → p = 24 + g → 1 ≤ x ∧ x ≤ 9) (h8 : ∀ g, g < 8 → p = 32 + g → x ≤ 1) : VC (zup σ p x) := by
  obtain ⟨⟨k1, k2, k3, k4⟩, k5, k6, k7, k8⟩ := h
  have e0 : zup σ p x 0 = σ 0 := zup_ne (by omega)
  have ex : ∀ i, zup σ p x i = x ∧ p = i ∨ zup σ p x i = σ i := fun i => by
    by_cases q : i = p
    · exact Or.inl ⟨by rw [q]; exact zup_eq, q.symm⟩
    · exact Or.inr (zup_ne q)
  unfold VC VR
  rw [e0]
  refine ⟨⟨k1, ?_, fun g hg => ?_, fun r hr => ?_⟩, ?_, ?_, ?_, ?_⟩
  · rcases ex 1 with ⟨q, q'⟩ | q
    · rw [q]; have := h1 q'; omega
    · rw [q]; exact k2
  · have := k3 g hg
    refine ⟨?_, ?_, ?_⟩
    · rcases ex (16 + g) with ⟨q, q'⟩ | q
      · rw [q]; exact h6 g (by omega) q'
      · rw [q]; exact this.1
    · rcases ex (24 + g) with ⟨q, q'⟩ | q
      · rw [q]; exact h7 g (by omega) q'
      · rw [q]; exact this.2.1
    · rcases ex (32 + g) with ⟨q, q'⟩ | q
      · rw [q]; exact h8 g (by omega) q'
      · rw [q]; exact this.2.2
  · have := k4 r hr
    refine ⟨?_, ?_⟩
    · rcases ex (8 + r) with ⟨q, q'⟩ | q
      · rw [q]; exact h4 r hr q'
      · rw [q]; exact this.1
    · rcases ex (12 + r) with ⟨q, q'⟩ | q
      · rw [q]; exact h5 r hr q'
      · rw [q]; exact this.2
  · rcases ex 1 with ⟨q, q'⟩ | q
    · rw [q]; exact (h1 q').1
    · rw [q]; exact k5
  · rcases ex 1 with ⟨q, q'⟩ | q
    · rw [q]; exact (h1 q').2
    · rw [q]; exact k6
  · rcases ex 2 with ⟨q, q'⟩ | q
    · rw [q]; exact h2 q'
    · rw [q]; exact k7
  · rcases ex 3 with ⟨q, q'⟩ | q
    · rw [q]; exact h3 q'
    · rw [q]; exact k8
def hwS (σ : Nat → Nat) (v : Int32) : Int32 × (Nat → Nat) := if zBtw v 8 96 then (nI (σ 1), zup (zup σ 1 v.toNatClampNeg) 4 0) else (-2, σ)
theorem m_setHours {sc : Int32 × (Int32 → Int32)} {f : zF} {a : zA} {j : zJ} {d c : Nat} {σ : Nat → Nat} {v : Int32} (hc : isC c) (hV : VC σ) (hR : CR c σ f a) : ∃ f' : zF, cf sc (d + 2) 15 [.ref c, .int v] f a j = some (some (.int (hwS σ v).1), f', a, j) ∧ Did c σ (hwS σ v).2 f f' a a := by
  unfold hwS
  rw [en15]
  by_cases hv : zBtw v 8 96
  · obtain ⟨h, h1, h2, rfl⟩ := zBtw_of (by omega) (by omega) hv
    rw [if_pos hv, nI_clamp (n := h) (by omega)]
    refine ⟨zuF (zuF f c 7 (nI h)) (c + 5) 3 (nI 0), ?_, hR.s7.cut, (hV.set (by omega) (by omega) (by omega) (by omega) (by omega) (by omega) (by omega) (by omega) (by omega)).cut, ⟨fun k q1 q2 => by rw [zuF_nk q2, zuF_nk q1], fun _ _ => rfl⟩, Kept.one (by omega)⟩
    simp only [q15_0, q15_1, q15_3, q15_5, q15_8, q15_11, q15_13, q15_14, q15_15, q15_18, q15_19, q15_20, q15_21, q15_24, q15_25, q15_28, q15_29, q15_32, q15_33, m_isWithin, eq_true hv, hc, isC_R hc, hR.2.1, zCall_some, Option.toList, List.cons_append, List.nil_append, zb_0, zb_1, zem, z01, z11, nI_add, ↓reduceIte, not_true_eq_false, not_false_eq_true, n0T, n1F, n11T, true_or, or_true, false_or]
  · rw [if_neg hv]
    refine ⟨f, ?_, Did.rf hR hV⟩
    simp only [q15_0, q15_1, q15_3, q15_5, q15_8, q15_11, q15_13, q15_14, q15_15, q15_18, q15_19, q15_20, q15_21, q15_24, q15_25, q15_28, q15_29, q15_32, q15_33, m_isWithin, eq_false hv, zCall_some, Option.toList, List.cons_append, List.nil_append, zb_0, zb_1, zem, z01, z11, nI_add, ↓reduceIte, not_true_eq_false, not_false_eq_true, n0T, n1F, n11T, true_or, or_true, false_or]
def ruS (σ : Nat → Nat) (v : Int32) : Int32 × (Nat → Nat) := if zBtw v 0 3 then (nI (σ 2), zup (zup σ 2 v.toNatClampNeg) 4 0) else (-2, σ)
theorem m_setRule {sc : Int32 × (Int32 → Int32)} {f : zF} {a : zA} {j : zJ} {d c : Nat} {σ : Nat → Nat} {v : Int32} (hc : isC c) (hV : VC σ) (hR : CR c σ f a) : ∃ f' : zF, cf sc (d + 2) 16 [.ref c, .int v] f a j = some (some (.int (ruS σ v).1), f', a, j) ∧ Did c σ (ruS σ v).2 f f' a a := by
  unfold ruS
  rw [en16]
  by_cases hv : zBtw v 0 3
  · obtain ⟨h, h1, h2, rfl⟩ := zBtw_of (by omega) (by omega) hv
    rw [if_pos hv, nI_clamp (n := h) (by omega)]
    refine ⟨zuF (zuF f c 9 (nI h)) (c + 5) 3 (nI 0), ?_, hR.s9.cut, (hV.set (by omega) (by omega) (by omega) (by omega) (by omega) (by omega) (by omega) (by omega) (by omega)).cut, ⟨fun k q1 q2 => by rw [zuF_nk q2, zuF_nk q1], fun _ _ => rfl⟩, Kept.one (by omega)⟩
    simp only [q16_0, q16_1, q16_2, q16_3, q16_6, q16_9, q16_11, q16_12, q16_13, q16_16, q16_17, q16_18, q16_19, q16_22, q16_23, q16_26, q16_27, q16_30, q16_31, m_isWithin, eq_true hv, hc, isC_R hc, hR.2.2.2, zCall_some, Option.toList, List.cons_append, List.nil_append, zb_0, zb_1, zem, z01, z11, nI_add, ↓reduceIte, not_true_eq_false, not_false_eq_true, n0T, n1F, n11T, true_or, or_true, false_or]
  · rw [if_neg hv]
    refine ⟨f, ?_, Did.rf hR hV⟩
    simp only [q16_0, q16_1, q16_2, q16_3, q16_6, q16_9, q16_11, q16_12, q16_13, q16_16, q16_17, q16_18, q16_19, q16_22, q16_23, q16_26, q16_27, q16_30, q16_31, m_isWithin, eq_false hv, zCall_some, Option.toList, List.cons_append, List.nil_append, zb_0, zb_1, zem, z01, z11, nI_add, ↓reduceIte, not_true_eq_false, not_false_eq_true, n0T, n1F, n11T, true_or, or_true, false_or]
def psS (σ : Nat → Nat) (v : Int32) : Int32 × (Nat → Nat) := if zBtw v 0 52 then (if σ 3 + v.toNatClampNeg ≤ 999 then (nI (σ 3 + v.toNatClampNeg), zup (zup σ 3 (σ 3 + v.toNatClampNeg)) 4 0) else (-4, σ)) else (-2, σ)
theorem m_passWeeks {sc : Int32 × (Int32 → Int32)} {f : zF} {a : zA} {j : zJ} {d c : Nat} {σ : Nat → Nat} {v : Int32} (hc : isC c) (hV : VC σ) (hR : CR c σ f a) : ∃ f' : zF, cf sc (d + 2) 17 [.ref c, .int v] f a j = some (some (.int (psS σ v).1), f', a, j) ∧ Did c σ (psS σ v).2 f f' a a := by
  unfold psS
  rw [en17]
  by_cases hv : zBtw v 0 52
  · obtain ⟨h, h1, h2, rfl⟩ := zBtw_of (by omega) (by omega) hv
    rw [if_pos hv, nI_clamp (n := h) (by omega)]
    have h9 := hV.2.2.2.2
    by_cases hw : σ 3 + h ≤ 999
    · rw [if_pos hw]
      have c1 : nI (σ 3 + h) ≤ nI 999 := nI_le hw (by omega)
      refine ⟨zuF (zuF f c 8 (nI (σ 3 + h))) (c + 5) 3 (nI 0), ?_, hR.s8.cut, (hV.set (by omega) (by omega) (by omega) (by omega) (by omega) (by omega) (by omega) (by omega) (by omega)).cut, ⟨fun k q1 q2 => by rw [zuF_nk q2, zuF_nk q1], fun _ _ => rfl⟩, Kept.one (by omega)⟩
      simp only [q17_0, q17_1, q17_2, q17_4, q17_7, q17_10, q17_12, q17_13, q17_14, q17_17, q17_18, q17_19, q17_22, q17_25, q17_27, q17_28, q17_29, q17_30, q17_33, q17_34, q17_35, q17_38, q17_39, q17_42, q17_43, q17_46, q17_47, q17_50, m_isWithin, eq_true hv, hc, isC_R hc, hR.2.2.1, c1, zuF_nk (show c ≠ c + 5 by omega), zuF_eq, zCall_some, Option.toList, List.cons_append, List.nil_append, zb_0, zb_1, zem, z01, z11, nI_add, ↓reduceIte, not_true_eq_false, not_false_eq_true, n0T, n1F, n11T, true_or, or_true, false_or]
    · rw [if_neg hw]
      have c1 : ¬ nI (σ 3 + h) ≤ nI 999 := nI_ge (by omega) (by omega)
      refine ⟨f, ?_, Did.rf hR hV⟩
      simp only [q17_0, q17_1, q17_2, q17_4, q17_7, q17_10, q17_12, q17_13, q17_14, q17_17, q17_18, q17_19, q17_22, q17_25, q17_27, q17_28, q17_29, q17_30, q17_33, q17_34, q17_35, q17_38, q17_39, q17_42, q17_43, q17_46, q17_47, q17_50, m_isWithin, eq_true hv, hc, isC_R hc, hR.2.2.1, c1, zCall_some, Option.toList, List.cons_append, List.nil_append, zb_0, zb_1, zem, z01, z11, nI_add, ↓reduceIte, not_true_eq_false, not_false_eq_true, n0T, n1F, n11T, true_or, or_true, false_or]
  · rw [if_neg hv]
    refine ⟨f, ?_, Did.rf hR hV⟩
    simp only [q17_0, q17_1, q17_2, q17_4, q17_7, q17_10, q17_12, q17_13, q17_14, q17_17, q17_18, q17_19, q17_22, q17_25, q17_27, q17_28, q17_29, q17_30, q17_33, q17_34, q17_35, q17_38, q17_39, q17_42, q17_43, q17_46, q17_47, q17_50, m_isWithin, eq_false hv, zCall_some, Option.toList, List.cons_append, List.nil_append, zb_0, zb_1, zem, z01, z11, nI_add, ↓reduceIte, not_true_eq_false, not_false_eq_true, n0T, n1F, n11T, true_or, or_true, false_or]
def awS (σ : Nat → Nat) (v b : Int32) : Int32 × (Nat → Nat) := if zHas v (σ 0) then (nI (σ (32 + v.toNatClampNeg)), zup (zup σ (32 + v.toNatClampNeg) (if b = 0 then 0 else 1)) 4 0) else (-1, σ)
theorem bt_set {x : Int32} {g : Nat} (hg : g < 8) : ∀ i, i < 8 → bt (x ||| (nI 1 <<< (nI g &&& 31))) i = if i = g then decide (1 = 1) else bt x i := by
  intro i hi
  rw [b_or, bt_one g hg i (by omega)]
  by_cases q : i = g
  · simp [q]
  · simp [q]
theorem bt_clr {x : Int32} {g : Nat} (hg : g < 8) : ∀ i, i < 8 → bt (x &&& ((nI 1 <<< (nI g &&& 31)) ^^^ (-1))) i = if i = g then decide (0 = 1) else bt x i := by
  intro i hi
  rw [b_and, b_xor, bt_one g hg i (by omega), b_m1 i (by omega)]
  by_cases q : i = g
  · simp [q]
  · simp [q]
theorem m_setAway {sc : Int32 × (Int32 → Int32)} {f : zF} {a : zA} {j : zJ} {d c : Nat} {σ : Nat → Nat} {v b : Int32} (hc : isC c) (hV : VC σ) (hR : CR c σ f a) : ∃ f' : zF, cf sc (d + 3) 14 [.ref c, .int v, .int b] f a j = some (some (.int (awS σ v b).1), f', a, j) ∧ Did c σ (awS σ v b).2 f f' a a := by
  have hn := hV.1.1
  unfold awS
  rw [en14]
  by_cases hv : zHas v (σ 0)
  · obtain ⟨g, hg, rfl⟩ := zHas_of (by omega) hv
    rw [if_pos hv, nI_clamp (n := g) (by omega)]
    have hA := m_isAway (sc := sc) (d := d) (j := j) hc hV.1 hR.1 hg
    have h1 := (hV.1.2.2.1 g hg).2.2
    by_cases hb : b = 0
    · rw [if_pos hb]
      refine ⟨zuF (zuF f c 5 (f c 5 &&& ((nI 1 <<< (nI g &&& 31)) ^^^ (-1)))) (c + 5) 3 (nI 0), ?_, (hR.b hn (by omega) (bt_clr (by omega))).cut, (hV.set (by omega) (by omega) (by omega) (by omega) (by omega) (by omega) (by omega) (by omega) (by omega)).cut, ⟨fun k q1 q2 => by rw [zuF_nk q2, zuF_nk q1], fun _ _ => rfl⟩, Kept.one (by omega)⟩
      by_cases hz : σ (32 + g) = 1
      · simp only [q14_0, q14_1, q14_2, q14_5, q14_8, q14_9, q14_10, q14_11, q14_12, q14_15, q14_18, q14_19, q14_22, q14_23, q14_24, q14_25, q14_26, q14_29, q14_30, q14_33, q14_34, q14_35, q14_36, q14_37, q14_40, q14_41, q14_44, q14_45, q14_46, q14_47, q14_48, q14_49, q14_50, q14_53, q14_54, q14_57, q14_58, q14_61, q14_62, m_hasField hc hR.1.1 hn, eq_true hv, hA, hc, isC_R hc, hz, hb, zCall_some, Option.toList, List.cons_append, List.nil_append, zb_0, zb_1, zem, z01, z11, nI_add, ↓reduceIte, not_true_eq_false, not_false_eq_true, n0T, n1F, n11T, true_or, or_true, false_or]
      · have hz' : σ (32 + g) = 0 := by omega
        simp only [q14_0, q14_1, q14_2, q14_5, q14_8, q14_9, q14_10, q14_11, q14_12, q14_15, q14_18, q14_19, q14_22, q14_23, q14_24, q14_25, q14_26, q14_29, q14_30, q14_33, q14_34, q14_35, q14_36, q14_37, q14_40, q14_41, q14_44, q14_45, q14_46, q14_47, q14_48, q14_49, q14_50, q14_53, q14_54, q14_57, q14_58, q14_61, q14_62, m_hasField hc hR.1.1 hn, eq_true hv, hA, hc, isC_R hc, hz', hb, Nat.zero_ne_one, zCall_some, Option.toList, List.cons_append, List.nil_append, zb_0, zb_1, zem, z01, z11, nI_add, ↓reduceIte, not_true_eq_false, not_false_eq_true, n0T, n1F, n11T, true_or, or_true, false_or]
    · rw [if_neg hb]
      refine ⟨zuF (zuF f c 5 (f c 5 ||| (nI 1 <<< (nI g &&& 31)))) (c + 5) 3 (nI 0), ?_, (hR.b hn (by omega) (bt_set (by omega))).cut, (hV.set (by omega) (by omega) (by omega) (by omega) (by omega) (by omega) (by omega) (by omega) (by omega)).cut, ⟨fun k q1 q2 => by rw [zuF_nk q2, zuF_nk q1], fun _ _ => rfl⟩, Kept.one (by omega)⟩
      by_cases hz : σ (32 + g) = 1
      · simp only [q14_0, q14_1, q14_2, q14_5, q14_8, q14_9, q14_10, q14_11, q14_12, q14_15, q14_18, q14_19, q14_22, q14_23, q14_24, q14_25, q14_26, q14_29, q14_30, q14_33, q14_34, q14_35, q14_36, q14_37, q14_40, q14_41, q14_44, q14_45, q14_46, q14_47, q14_48, q14_49, q14_50, q14_53, q14_54, q14_57, q14_58, q14_61, q14_62, m_hasField hc hR.1.1 hn, eq_true hv, hA, hc, isC_R hc, hz, hb, zCall_some, Option.toList, List.cons_append, List.nil_append, zb_0, zb_1, zem, z01, z11, nI_add, ↓reduceIte, not_true_eq_false, not_false_eq_true, n0T, n1F, n11T, true_or, or_true, false_or]
      · have hz' : σ (32 + g) = 0 := by omega
        simp only [q14_0, q14_1, q14_2, q14_5, q14_8, q14_9, q14_10, q14_11, q14_12, q14_15, q14_18, q14_19, q14_22, q14_23, q14_24, q14_25, q14_26, q14_29, q14_30, q14_33, q14_34, q14_35, q14_36, q14_37, q14_40, q14_41, q14_44, q14_45, q14_46, q14_47, q14_48, q14_49, q14_50, q14_53, q14_54, q14_57, q14_58, q14_61, q14_62, m_hasField hc hR.1.1 hn, eq_true hv, hA, hc, isC_R hc, hz', hb, Nat.zero_ne_one, zCall_some, Option.toList, List.cons_append, List.nil_append, zb_0, zb_1, zem, z01, z11, nI_add, ↓reduceIte, not_true_eq_false, not_false_eq_true, n0T, n1F, n11T, true_or, or_true, false_or]
  · rw [if_neg hv]
    refine ⟨f, ?_, Did.rf hR hV⟩
    simp only [q14_0, q14_1, q14_2, q14_5, q14_8, q14_9, q14_10, q14_11, q14_12, q14_15, q14_18, q14_19, q14_22, q14_23, q14_24, q14_25, q14_26, q14_29, q14_30, q14_33, q14_34, q14_35, q14_36, q14_37, q14_40, q14_41, q14_44, q14_45, q14_46, q14_47, q14_48, q14_49, q14_50, q14_53, q14_54, q14_57, q14_58, q14_61, q14_62, hc, m_hasField hc hR.1.1 hn, eq_false hv, zCall_some, Option.toList, List.cons_append, List.nil_append, zb_0, zb_1, zem, z01, z11, nI_add, ↓reduceIte, not_true_eq_false, not_false_eq_true, n0T, n1F, n11T, true_or, or_true, false_or]
theorem m_renewed {sc : Int32 × (Int32 → Int32)} {f : zF} {a : zA} {j : zJ} {d c k i : Nat} {x lo hi : Int32} (hc : isC c) (hk : zKd k = 21) (h1 : i < zLn k) : cf sc (d + 2) 12 [.ref c, .ref k, .int (nI i), .int x, .int lo, .int hi] f a j = if ¬ x < lo ∧ ¬ hi < x then some (some (.int (a k (nI i))), zuF f (c + 5) 3 (nI 0), zuA a k (nI i) x, j) else some (some (.int (-2)), f, a, j) := by
  have h2 := zLn_le k
  have hh : zHas (nI i) (zLn k) := zHas_nI (by omega) h1
  have hb : ¬ nI i < nI 0 ∧ ¬ nI (zLn k) - nI 1 < nI i := (has_iff (by omega)).mpr hh
  have hl : 20 ≤ zKd k ∧ zKd k < 25 := by omega
  have ix : zIx 21 k (nI i) := zIx_of hk rfl h1
  rw [en12]
  by_cases hx : ¬ x < lo ∧ ¬ hi < x
  · rw [if_pos hx]
    simp only [q12_0, q12_1, q12_3, q12_5, q12_8, q12_11, q12_12, q12_13, q12_14, q12_15, q12_16, q12_17, q12_20, q12_23, q12_25, q12_26, q12_27, q12_28, q12_29, q12_31, q12_32, q12_33, q12_34, q12_35, q12_36, q12_39, q12_40, q12_43, q12_45, m_isWithin, eq_true hx, eq_true hb, hc, isC_R hc, eq_true hl, ix, zCall_some, Option.toList, List.cons_append, List.nil_append, zb_0, zb_1, zem, z01, z11, nI_add, ↓reduceIte, not_true_eq_false, not_false_eq_true, n0T, n1F, n11T, true_or, or_true, false_or]
  · rw [if_neg hx]
    simp only [q12_0, q12_1, q12_3, q12_5, q12_8, q12_11, q12_12, q12_13, q12_14, q12_15, q12_16, q12_17, q12_20, q12_23, q12_25, q12_26, q12_27, q12_28, q12_29, q12_31, q12_32, q12_33, q12_34, q12_35, q12_36, q12_39, q12_40, q12_43, q12_45, m_isWithin, eq_false hx, zCall_some, Option.toList, List.cons_append, List.nil_append, zb_0, zb_1, zem, z01, z11, nI_add, ↓reduceIte, not_true_eq_false, not_false_eq_true, n0T, n1F, n11T, true_or, or_true, false_or]
def rfS (σ : Nat → Nat) (v what x : Int32) : Int32 × (Nat → Nat) := if zHas v (σ 0) ∧ zBtw what 0 1 then (if what = nI 0 then (if zBtw x 0 3 then (nI (σ (16 + v.toNatClampNeg)), zup (zup σ (16 + v.toNatClampNeg) x.toNatClampNeg) 4 0) else (-2, σ)) else if zBtw x 1 9 then (nI (σ (24 + v.toNatClampNeg)), zup (zup σ (24 + v.toNatClampNeg) x.toNatClampNeg) 4 0) else (-2, σ)) else (-1, σ)
theorem m_renewField {sc : Int32 × (Int32 → Int32)} {f : zF} {a : zA} {j : zJ} {d c : Nat} {σ : Nat → Nat} {v what x : Int32} (hc : isC c) (hV : VC σ) (hR : CR c σ f a) : ∃ (f' : zF) (a' : zA), cf sc (d + 3) 10 [.ref c, .int v, .int what, .int x] f a j = some (some (.int (rfS σ v what x).1), f', a', j) ∧ Did c σ (rfS σ v what x).2 f f' a a' := by
  have hn := hV.1.1
  unfold rfS
  rw [en10]
  by_cases hv : zHas v (σ 0)
  · by_cases hw : zBtw what 0 1
    · rw [if_pos ⟨hv, hw⟩]
      obtain ⟨g, hg, rfl⟩ := zHas_of (by omega) hv
      rw [nI_clamp (n := g) (by omega)]
      have rg := hR.1.2.2.2.1 g hg
      have k3 : zKd (c + 3) = 21 ∧ zLn (c + 3) = 8 := by rcases hc with rfl | rfl | rfl <;> exact ⟨rfl, rfl⟩
      have k4 : zKd (c + 4) = 21 ∧ zLn (c + 4) = 8 := by rcases hc with rfl | rfl | rfl <;> exact ⟨rfl, rfl⟩
      by_cases h0 : what = nI 0
      · subst h0
        rw [if_pos rfl]
        have hr := m_renewed (sc := sc) (d := d) (f := f) (a := a) (j := j) (x := x) (lo := nI 0) (hi := nI 3) (i := g) hc k3.1 (by omega)
        by_cases hx : zBtw x 0 3
        · obtain ⟨y, y1, y2, rfl⟩ := zBtw_of (by omega) (by omega) hx
          rw [if_pos hx, nI_clamp (n := y) (by omega)]
          rw [if_pos hx] at hr
          refine ⟨zuF f (c + 5) 3 (nI 0), zuA a (c + 3) (nI g) (nI y), ?_, (hR.a3 hn (by omega)).cut, (hV.set (by omega) (by omega) (by omega) (by omega) (by omega) (by omega) (by omega) (by omega) (by omega)).cut, ⟨fun k q1 q2 => by rw [zuF_nk q2], fun k hk => zuA_nk (by omega)⟩, Kept.one (by omega)⟩
          simp only [q10_0, q10_1, q10_2, q10_5, q10_8, q10_9, q10_10, q10_11, q10_14, q10_17, q10_18, q10_19, q10_20, q10_23, q10_24, q10_27, q10_28, q10_30, q10_31, q10_34, q10_35, q10_38, q10_40, q10_42, q10_43, q10_44, q10_47, q10_48, q10_51, q10_54, q10_55, q10_58, q10_59, q10_60, q10_62, q10_64, q10_67, m_hasField hc hR.1.1 hn, m_isWithin, eq_true hv, eq_true hw, hc, hr, rg.1, zCall_some, Option.toList, List.cons_append, List.nil_append, zb_0, zb_1, zem, z01, z11, nI_add, ↓reduceIte, not_true_eq_false, not_false_eq_true, n0T, n1F, n11T, true_or, or_true, false_or]
        · rw [if_neg hx]
          rw [if_neg hx] at hr
          refine ⟨f, a, ?_, Did.rf hR hV⟩
          simp only [q10_0, q10_1, q10_2, q10_5, q10_8, q10_9, q10_10, q10_11, q10_14, q10_17, q10_18, q10_19, q10_20, q10_23, q10_24, q10_27, q10_28, q10_30, q10_31, q10_34, q10_35, q10_38, q10_40, q10_42, q10_43, q10_44, q10_47, q10_48, q10_51, q10_54, q10_55, q10_58, q10_59, q10_60, q10_62, q10_64, q10_67, m_hasField hc hR.1.1 hn, m_isWithin, eq_true hv, eq_true hw, hc, hr, zCall_some, Option.toList, List.cons_append, List.nil_append, zb_0, zb_1, zem, z01, z11, nI_add, ↓reduceIte, not_true_eq_false, not_false_eq_true, n0T, n1F, n11T, true_or, or_true, false_or]
      · rw [if_neg h0]
        have h0' : ¬ what = 0 := h0
        have hr := m_renewed (sc := sc) (d := d) (f := f) (a := a) (j := j) (x := x) (lo := nI 1) (hi := nI 9) (i := g) hc k4.1 (by omega)
        by_cases hx : zBtw x 1 9
        · obtain ⟨y, y1, y2, rfl⟩ := zBtw_of (by omega) (by omega) hx
          rw [if_pos hx, nI_clamp (n := y) (by omega)]
          rw [if_pos hx] at hr
          refine ⟨zuF f (c + 5) 3 (nI 0), zuA a (c + 4) (nI g) (nI y), ?_, (hR.a4 hn (by omega)).cut, (hV.set (by omega) (by omega) (by omega) (by omega) (by omega) (by omega) (by omega) (by omega) (by omega)).cut, ⟨fun k q1 q2 => by rw [zuF_nk q2], fun k hk => zuA_nk (by omega)⟩, Kept.one (by omega)⟩
          simp only [q10_0, q10_1, q10_2, q10_5, q10_8, q10_9, q10_10, q10_11, q10_14, q10_17, q10_18, q10_19, q10_20, q10_23, q10_24, q10_27, q10_28, q10_30, q10_31, q10_34, q10_35, q10_38, q10_40, q10_42, q10_43, q10_44, q10_47, q10_48, q10_51, q10_54, q10_55, q10_58, q10_59, q10_60, q10_62, q10_64, q10_67, m_hasField hc hR.1.1 hn, m_isWithin, eq_true hv, eq_true hw, hc, hr, rg.2, h0', zCall_some, Option.toList, List.cons_append, List.nil_append, zb_0, zb_1, zem, z01, z11, nI_add, ↓reduceIte, not_true_eq_false, not_false_eq_true, n0T, n1F, n11T, true_or, or_true, false_or]
        · rw [if_neg hx]
          rw [if_neg hx] at hr
          refine ⟨f, a, ?_, Did.rf hR hV⟩
          simp only [q10_0, q10_1, q10_2, q10_5, q10_8, q10_9, q10_10, q10_11, q10_14, q10_17, q10_18, q10_19, q10_20, q10_23, q10_24, q10_27, q10_28, q10_30, q10_31, q10_34, q10_35, q10_38, q10_40, q10_42, q10_43, q10_44, q10_47, q10_48, q10_51, q10_54, q10_55, q10_58, q10_59, q10_60, q10_62, q10_64, q10_67, m_hasField hc hR.1.1 hn, m_isWithin, eq_true hv, eq_true hw, hc, hr, h0', zCall_some, Option.toList, List.cons_append, List.nil_append, zb_0, zb_1, zem, z01, z11, nI_add, ↓reduceIte, not_true_eq_false, not_false_eq_true, n0T, n1F, n11T, true_or, or_true, false_or]
    · rw [if_neg (fun q => hw q.2)]
      refine ⟨f, a, ?_, Did.rf hR hV⟩
      simp only [q10_0, q10_1, q10_2, q10_5, q10_8, q10_9, q10_10, q10_11, q10_14, q10_17, q10_18, q10_19, q10_20, q10_23, q10_24, q10_27, q10_28, q10_30, q10_31, q10_34, q10_35, q10_38, q10_40, q10_42, q10_43, q10_44, q10_47, q10_48, q10_51, q10_54, q10_55, q10_58, q10_59, q10_60, q10_62, q10_64, q10_67, hc, m_hasField hc hR.1.1 hn, m_isWithin, eq_true hv, eq_false hw, zCall_some, Option.toList, List.cons_append, List.nil_append, zb_0, zb_1, zem, z01, z11, nI_add, ↓reduceIte, not_true_eq_false, not_false_eq_true, n0T, n1F, n11T, true_or, or_true, false_or]
  · rw [if_neg (fun q => hv q.1)]
    refine ⟨f, a, ?_, Did.rf hR hV⟩
    simp only [q10_0, q10_1, q10_2, q10_5, q10_8, q10_9, q10_10, q10_11, q10_14, q10_17, q10_18, q10_19, q10_20, q10_23, q10_24, q10_27, q10_28, q10_30, q10_31, q10_34, q10_35, q10_38, q10_40, q10_42, q10_43, q10_44, q10_47, q10_48, q10_51, q10_54, q10_55, q10_58, q10_59, q10_60, q10_62, q10_64, q10_67, hc, m_hasField hc hR.1.1 hn, m_isWithin, eq_false hv, zCall_some, Option.toList, List.cons_append, List.nil_append, zb_0, zb_1, zem, z01, z11, nI_add, ↓reduceIte, not_true_eq_false, not_false_eq_true, n0T, n1F, n11T, true_or, or_true, false_or]
def rrS (σ : Nat → Nat) (v what x : Int32) : Int32 × (Nat → Nat) := if zBtw v 0 3 ∧ zBtw what 0 1 then (if what = nI 0 then (if zBtw x 0 9 then (nI (σ (8 + v.toNatClampNeg)), zup (zup σ (8 + v.toNatClampNeg) x.toNatClampNeg) 4 0) else (-2, σ)) else if zBtw x 0 25 then (nI (σ (12 + v.toNatClampNeg)), zup (zup σ (12 + v.toNatClampNeg) x.toNatClampNeg) 4 0) else (-2, σ)) else (-1, σ)
theorem m_renewReach {sc : Int32 × (Int32 → Int32)} {f : zF} {a : zA} {j : zJ} {d c : Nat} {σ : Nat → Nat} {v what x : Int32} (hc : isC c) (hV : VC σ) (hR : CR c σ f a) : ∃ (f' : zF) (a' : zA), cf sc (d + 3) 11 [.ref c, .int v, .int what, .int x] f a j = some (some (.int (rrS σ v what x).1), f', a', j) ∧ Did c σ (rrS σ v what x).2 f f' a a' := by
  have hn := hV.1.1
  unfold rrS
  rw [en11]
  by_cases hv : zBtw v 0 3
  · by_cases hw : zBtw what 0 1
    · rw [if_pos ⟨hv, hw⟩]
      obtain ⟨g, g1, hg, rfl⟩ := zBtw_of (by omega) (by omega) hv
      rw [nI_clamp (n := g) (by omega)]
      have rg := hR.1.2.2.1 g (by omega)
      have k3 : zKd (c + 1) = 21 ∧ zLn (c + 1) = 4 := by rcases hc with rfl | rfl | rfl <;> exact ⟨rfl, rfl⟩
      have k4 : zKd (c + 2) = 21 ∧ zLn (c + 2) = 4 := by rcases hc with rfl | rfl | rfl <;> exact ⟨rfl, rfl⟩
      by_cases h0 : what = nI 0
      · subst h0
        rw [if_pos rfl]
        have hr := m_renewed (sc := sc) (d := d) (f := f) (a := a) (j := j) (x := x) (lo := nI 0) (hi := nI 9) (i := g) hc k3.1 (by omega)
        by_cases hx : zBtw x 0 9
        · obtain ⟨y, y1, y2, rfl⟩ := zBtw_of (by omega) (by omega) hx
          rw [if_pos hx, nI_clamp (n := y) (by omega)]
          rw [if_pos hx] at hr
          refine ⟨zuF f (c + 5) 3 (nI 0), zuA a (c + 1) (nI g) (nI y), ?_, (hR.a1 hn (by omega)).cut, (hV.set (by omega) (by omega) (by omega) (by omega) (by omega) (by omega) (by omega) (by omega) (by omega)).cut, ⟨fun k q1 q2 => by rw [zuF_nk q2], fun k hk => zuA_nk (by omega)⟩, Kept.one (by omega)⟩
          simp only [q11_0, q11_1, q11_2, q11_3, q11_6, q11_9, q11_10, q11_11, q11_12, q11_15, q11_18, q11_19, q11_20, q11_21, q11_22, q11_25, q11_26, q11_29, q11_32, q11_33, q11_36, q11_37, q11_38, q11_39, q11_40, q11_43, q11_45, q11_48, q11_50, q11_53, m_isWithin, eq_true hv, eq_true hw, hc, hr, rg.1, zCall_some, Option.toList, List.cons_append, List.nil_append, zb_0, zb_1, zem, z01, z11, nI_add, ↓reduceIte, not_true_eq_false, not_false_eq_true, n0T, n1F, n11T, true_or, or_true, false_or]
        · rw [if_neg hx]
          rw [if_neg hx] at hr
          refine ⟨f, a, ?_, Did.rf hR hV⟩
          simp only [q11_0, q11_1, q11_2, q11_3, q11_6, q11_9, q11_10, q11_11, q11_12, q11_15, q11_18, q11_19, q11_20, q11_21, q11_22, q11_25, q11_26, q11_29, q11_32, q11_33, q11_36, q11_37, q11_38, q11_39, q11_40, q11_43, q11_45, q11_48, q11_50, q11_53, m_isWithin, eq_true hv, eq_true hw, hc, hr, zCall_some, Option.toList, List.cons_append, List.nil_append, zb_0, zb_1, zem, z01, z11, nI_add, ↓reduceIte, not_true_eq_false, not_false_eq_true, n0T, n1F, n11T, true_or, or_true, false_or]
      · rw [if_neg h0]
        have h0' : ¬ what = 0 := h0
        have hr := m_renewed (sc := sc) (d := d) (f := f) (a := a) (j := j) (x := x) (lo := nI 0) (hi := nI 25) (i := g) hc k4.1 (by omega)
        by_cases hx : zBtw x 0 25
        · obtain ⟨y, y1, y2, rfl⟩ := zBtw_of (by omega) (by omega) hx
          rw [if_pos hx, nI_clamp (n := y) (by omega)]
          rw [if_pos hx] at hr
          refine ⟨zuF f (c + 5) 3 (nI 0), zuA a (c + 2) (nI g) (nI y), ?_, (hR.a2 hn (by omega)).cut, (hV.set (by omega) (by omega) (by omega) (by omega) (by omega) (by omega) (by omega) (by omega) (by omega)).cut, ⟨fun k q1 q2 => by rw [zuF_nk q2], fun k hk => zuA_nk (by omega)⟩, Kept.one (by omega)⟩
          simp only [q11_0, q11_1, q11_2, q11_3, q11_6, q11_9, q11_10, q11_11, q11_12, q11_15, q11_18, q11_19, q11_20, q11_21, q11_22, q11_25, q11_26, q11_29, q11_32, q11_33, q11_36, q11_37, q11_38, q11_39, q11_40, q11_43, q11_45, q11_48, q11_50, q11_53, m_isWithin, eq_true hv, eq_true hw, hc, hr, rg.2, h0', zCall_some, Option.toList, List.cons_append, List.nil_append, zb_0, zb_1, zem, z01, z11, nI_add, ↓reduceIte, not_true_eq_false, not_false_eq_true, n0T, n1F, n11T, true_or, or_true, false_or]
        · rw [if_neg hx]
          rw [if_neg hx] at hr
          refine ⟨f, a, ?_, Did.rf hR hV⟩
          simp only [q11_0, q11_1, q11_2, q11_3, q11_6, q11_9, q11_10, q11_11, q11_12, q11_15, q11_18, q11_19, q11_20, q11_21, q11_22, q11_25, q11_26, q11_29, q11_32, q11_33, q11_36, q11_37, q11_38, q11_39, q11_40, q11_43, q11_45, q11_48, q11_50, q11_53, m_isWithin, eq_true hv, eq_true hw, hc, hr, h0', zCall_some, Option.toList, List.cons_append, List.nil_append, zb_0, zb_1, zem, z01, z11, nI_add, ↓reduceIte, not_true_eq_false, not_false_eq_true, n0T, n1F, n11T, true_or, or_true, false_or]
    · rw [if_neg (fun q => hw q.2)]
      refine ⟨f, a, ?_, Did.rf hR hV⟩
      simp only [q11_0, q11_1, q11_2, q11_3, q11_6, q11_9, q11_10, q11_11, q11_12, q11_15, q11_18, q11_19, q11_20, q11_21, q11_22, q11_25, q11_26, q11_29, q11_32, q11_33, q11_36, q11_37, q11_38, q11_39, q11_40, q11_43, q11_45, q11_48, q11_50, q11_53, m_isWithin, eq_true hv, eq_false hw, zCall_some, Option.toList, List.cons_append, List.nil_append, zb_0, zb_1, zem, z01, z11, nI_add, ↓reduceIte, not_true_eq_false, not_false_eq_true, n0T, n1F, n11T, true_or, or_true, false_or]
  · rw [if_neg (fun q => hv q.1)]
    refine ⟨f, a, ?_, Did.rf hR hV⟩
    simp only [q11_0, q11_1, q11_2, q11_3, q11_6, q11_9, q11_10, q11_11, q11_12, q11_15, q11_18, q11_19, q11_20, q11_21, q11_22, q11_25, q11_26, q11_29, q11_32, q11_33, q11_36, q11_37, q11_38, q11_39, q11_40, q11_43, q11_45, q11_48, q11_50, q11_53, m_isWithin, eq_false hv, zCall_some, Option.toList, List.cons_append, List.nil_append, zb_0, zb_1, zem, z01, z11, nI_add, ↓reduceIte, not_true_eq_false, not_false_eq_true, n0T, n1F, n11T, true_or, or_true, false_or]
def srS (σ : Nat → Nat) (v x y : Int32) : Int32 × (Nat → Nat) := if zBtw v 0 3 then (if zBtw x 0 9 ∧ zBtw y 0 25 then (nI 0, zup (zup (zup σ (8 + v.toNatClampNeg) x.toNatClampNeg) (12 + v.toNatClampNeg) y.toNatClampNeg) 4 0) else (-2, σ)) else (-1, σ)
theorem m_setReach {sc : Int32 × (Int32 → Int32)} {f : zF} {a : zA} {j : zJ} {d c : Nat} {σ : Nat → Nat} {v x y : Int32} (hc : isC c) (hV : VC σ) (hR : CR c σ f a) : ∃ (f' : zF) (a' : zA), cf sc (d + 2) 13 [.ref c, .int v, .int x, .int y] f a j = some (some (.int (srS σ v x y).1), f', a', j) ∧ Did c σ (srS σ v x y).2 f f' a a' := by
  have hn := hV.1.1
  unfold srS
  rw [en13]
  by_cases hv : zBtw v 0 3
  · rw [if_pos hv]
    by_cases hx : zBtw x 0 9
    · by_cases hy : zBtw y 0 25
      · rw [if_pos ⟨hx, hy⟩]
        obtain ⟨g, g1, hg, rfl⟩ := zBtw_of (by omega) (by omega) hv
        obtain ⟨p, p1, p2, rfl⟩ := zBtw_of (by omega) (by omega) hx
        obtain ⟨q, q1, q2, rfl⟩ := zBtw_of (by omega) (by omega) hy
        rw [nI_clamp (n := g) (by omega), nI_clamp (n := p) (by omega), nI_clamp (n := q) (by omega)]
        have i1 : zIx 21 (c + 1) (nI g) := ixC1 hc (by omega)
        have i2 : zIx 21 (c + 2) (nI g) := ixC2 hc (by omega)
        have v1 : VC (zup σ (8 + g) p) := hV.set (by omega) (by omega) (by omega) (by omega) (by omega) (by omega) (by omega) (by omega) (by omega)
        have z0 : zup σ (8 + g) p 0 ≤ 8 := by rw [zup_ne (by omega)]; exact hn
        refine ⟨zuF f (c + 5) 3 (nI 0), zuA (zuA a (c + 1) (nI g) (nI p)) (c + 2) (nI g) (nI q), ?_, ((hR.a1 hn (by omega)).a2 z0 (by omega)).cut, (v1.set (by omega) (by omega) (by omega) (by omega) (by omega) (by omega) (by omega) (by omega) (by omega)).cut, ⟨fun k q1 q2 => by rw [zuF_nk q2], fun k hk => by rw [zuA_nk (by omega), zuA_nk (by omega)]⟩, Kept.cut (fun i hi => by rw [zup_ne (by omega), zup_ne (by omega)])⟩
        simp only [q13_0, q13_1, q13_2, q13_3, q13_6, q13_9, q13_10, q13_11, q13_12, q13_13, q13_15, q13_18, q13_21, q13_22, q13_23, q13_25, q13_28, q13_31, q13_33, q13_34, q13_35, q13_38, q13_39, q13_40, q13_41, q13_42, q13_45, q13_46, q13_47, q13_48, q13_49, q13_52, q13_53, q13_56, q13_57, m_isWithin, eq_true hv, eq_true hx, eq_true hy, hc, isC_R hc, i1, i2, zCall_some, Option.toList, List.cons_append, List.nil_append, zb_0, zb_1, zem, z01, z11, nI_add, ↓reduceIte, not_true_eq_false, not_false_eq_true, n0T, n1F, n11T, true_or, or_true, false_or]
      · rw [if_neg (fun q => hy q.2)]
        refine ⟨f, a, ?_, Did.rf hR hV⟩
        simp only [q13_0, q13_1, q13_2, q13_3, q13_6, q13_9, q13_10, q13_11, q13_12, q13_13, q13_15, q13_18, q13_21, q13_22, q13_23, q13_25, q13_28, q13_31, q13_33, q13_34, q13_35, q13_38, q13_39, q13_40, q13_41, q13_42, q13_45, q13_46, q13_47, q13_48, q13_49, q13_52, q13_53, q13_56, q13_57, m_isWithin, eq_true hv, eq_true hx, eq_false hy, zCall_some, Option.toList, List.cons_append, List.nil_append, zb_0, zb_1, zem, z01, z11, nI_add, ↓reduceIte, not_true_eq_false, not_false_eq_true, n0T, n1F, n11T, true_or, or_true, false_or]
    · rw [if_neg (fun q => hx q.1)]
      refine ⟨f, a, ?_, Did.rf hR hV⟩
      simp only [q13_0, q13_1, q13_2, q13_3, q13_6, q13_9, q13_10, q13_11, q13_12, q13_13, q13_15, q13_18, q13_21, q13_22, q13_23, q13_25, q13_28, q13_31, q13_33, q13_34, q13_35, q13_38, q13_39, q13_40, q13_41, q13_42, q13_45, q13_46, q13_47, q13_48, q13_49, q13_52, q13_53, q13_56, q13_57, m_isWithin, eq_true hv, eq_false hx, zCall_some, Option.toList, List.cons_append, List.nil_append, zb_0, zb_1, zem, z01, z11, nI_add, ↓reduceIte, not_true_eq_false, not_false_eq_true, n0T, n1F, n11T, true_or, or_true, false_or]
  · rw [if_neg hv]
    refine ⟨f, a, ?_, Did.rf hR hV⟩
    simp only [q13_0, q13_1, q13_2, q13_3, q13_6, q13_9, q13_10, q13_11, q13_12, q13_13, q13_15, q13_18, q13_21, q13_22, q13_23, q13_25, q13_28, q13_31, q13_33, q13_34, q13_35, q13_38, q13_39, q13_40, q13_41, q13_42, q13_45, q13_46, q13_47, q13_48, q13_49, q13_52, q13_53, q13_56, q13_57, m_isWithin, eq_false hv, zCall_some, Option.toList, List.cons_append, List.nil_append, zb_0, zb_1, zem, z01, z11, nI_add, ↓reduceIte, not_true_eq_false, not_false_eq_true, n0T, n1F, n11T, true_or, or_true, false_or]
def cfU (σ : Nat → Nat) (r s : Nat) : Nat → Nat := zup (zup (zup (zup (zup σ (16 + σ 0) r) (24 + σ 0) s) (32 + σ 0) 0) 4 0) 0 (σ 0 + 1)
def cfS (σ : Nat → Nat) (x y : Int32) : Int32 × (Nat → Nat) := if zBtw x 0 3 ∧ zBtw y 1 9 then (if σ 0 < 8 then (nI (σ 0), cfU σ x.toNatClampNeg y.toNatClampNeg) else (-4, σ)) else (-2, σ)
theorem CR.come {c r s : Nat} {y : Int32} {σ : Nat → Nat} {f : zF} {a : zA} (hn : σ 0 < 8) (hR : CR c σ f a) (hy : ∀ g, g < 8 → bt y g = if g = σ 0 then decide (0 = 1) else bt (f c 5) g) :
    CR c (cfU σ r s) (zuF (zuF (zuF f c 5 y) (c + 5) 3 (nI 0)) c 6 (nI (σ 0 + 1))) (zuA (zuA a (c + 3) (nI (σ 0)) (nI r)) (c + 4) (nI (σ 0)) (nI s)) := by
  obtain ⟨⟨h1, h2, h3, h4, h5, h6⟩, h7⟩ := hR
  have e : ∀ i, i ≠ 0 → i ≠ 4 → i ≠ 32 + σ 0 → i ≠ 24 + σ 0 → i ≠ 16 + σ 0 → cfU σ r s i = σ i := fun i q1 q2 q3 q4 q5 => by
    unfold cfU
    rw [zup_ne q1, zup_ne q2, zup_ne q3, zup_ne q4, zup_ne q5]
  have e0 : cfU σ r s 0 = σ 0 + 1 := zup_eq
  have e4 : cfU σ r s 4 = 0 := by unfold cfU; rw [zup_ne (by omega), zup_eq]
  have e32 : cfU σ r s (32 + σ 0) = 0 := by unfold cfU; rw [zup_ne (by omega), zup_ne (by omega), zup_eq]
  have e24 : cfU σ r s (24 + σ 0) = s := by unfold cfU; rw [zup_ne (by omega), zup_ne (by omega), zup_ne (by omega), zup_eq]
  have e16 : cfU σ r s (16 + σ 0) = r := by unfold cfU; rw [zup_ne (by omega), zup_ne (by omega), zup_ne (by omega), zup_ne (by omega), zup_eq]
  have f5 : zuF (zuF (zuF f c 5 y) (c + 5) 3 (nI 0)) c 6 (nI (σ 0 + 1)) c 5 = y := by rw [zuF_ni (by omega), zuF_nk (by omega), zuF_eq]
  have fo : ∀ i, 7 ≤ i → zuF (zuF (zuF f c 5 y) (c + 5) 3 (nI 0)) c 6 (nI (σ 0 + 1)) c i = f c i := fun i hi => by rw [zuF_ni (by omega), zuF_nk (by omega), zuF_ni (by omega)]
  have f3 : zuF (zuF (zuF f c 5 y) (c + 5) 3 (nI 0)) c 6 (nI (σ 0 + 1)) (c + 5) 3 = nI 0 := by rw [zuF_nk (by omega), zuF_eq]
  unfold CR CR0
  rw [e0, e4, f5, f3, fo 7 (by omega), fo 8 (by omega), fo 9 (by omega), zuF_eq, e 1 (by omega) (by omega) (by omega) (by omega) (by omega), e 2 (by omega) (by omega) (by omega) (by omega) (by omega), e 3 (by omega) (by omega) (by omega) (by omega) (by omega)]
  refine ⟨⟨rfl, fun g hg => ?_, fun q hq => ?_, fun g hg => ?_, rfl, fun k hk => by omega⟩, h7⟩
  · rw [hy g (by omega)]
    by_cases q : g = σ 0
    · rw [if_pos q, q, e32]
    · rw [if_neg q, e (32 + g) (by omega) (by omega) (by omega) (by omega) (by omega)]; exact h2 g (by omega)
  · rw [zuA_nk (by omega), zuA_nk (by omega), zuA_nk (by omega), zuA_nk (by omega), e (8 + q) (by omega) (by omega) (by omega) (by omega) (by omega), e (12 + q) (by omega) (by omega) (by omega) (by omega) (by omega)]; exact h3 q hq
  · by_cases q : g = σ 0
    · rw [q, e16, e24, zuA_nk (show c + 3 ≠ c + 4 by omega), zuA_eq, zuA_eq]
      exact ⟨rfl, rfl⟩
    · have q' : nI g ≠ nI (σ 0) := nI_ne (by omega) (by omega) q
      rw [zuA_ni q', zuA_ni q', zuA_ni q', zuA_ni q', e (16 + g) (by omega) (by omega) (by omega) (by omega) (by omega), e (24 + g) (by omega) (by omega) (by omega) (by omega) (by omega)]
      exact h4 g (by omega)
theorem VC.come {r s : Nat} {σ : Nat → Nat} (hV : VC σ) (hn : σ 0 < 8) (hr : r < 4) (h1 : 1 ≤ s) (h2 : s ≤ 9) : VC (cfU σ r s) := by
  obtain ⟨⟨k1, k2, k3, k4⟩, k5⟩ := hV
  have e : ∀ i, i ≠ 0 → i ≠ 4 → i ≠ 32 + σ 0 → i ≠ 24 + σ 0 → i ≠ 16 + σ 0 → cfU σ r s i = σ i := fun i q1 q2 q3 q4 q5 => by
    unfold cfU
    rw [zup_ne q1, zup_ne q2, zup_ne q3, zup_ne q4, zup_ne q5]
  have e0 : cfU σ r s 0 = σ 0 + 1 := zup_eq
  have e32 : cfU σ r s (32 + σ 0) = 0 := by unfold cfU; rw [zup_ne (by omega), zup_ne (by omega), zup_eq]
  have e24 : cfU σ r s (24 + σ 0) = s := by unfold cfU; rw [zup_ne (by omega), zup_ne (by omega), zup_ne (by omega), zup_eq]
  have e16 : cfU σ r s (16 + σ 0) = r := by unfold cfU; rw [zup_ne (by omega), zup_ne (by omega), zup_ne (by omega), zup_ne (by omega), zup_eq]
  unfold VC VR
  rw [e0, e 1 (by omega) (by omega) (by omega) (by omega) (by omega), e 2 (by omega) (by omega) (by omega) (by omega) (by omega), e 3 (by omega) (by omega) (by omega) (by omega) (by omega)]
  refine ⟨⟨by omega, k2, fun g hg => ?_, fun q hq => ?_⟩, k5⟩
  · by_cases q : g = σ 0
    · rw [q, e16, e24, e32]; omega
    · rw [e (16 + g) (by omega) (by omega) (by omega) (by omega) (by omega), e (24 + g) (by omega) (by omega) (by omega) (by omega) (by omega), e (32 + g) (by omega) (by omega) (by omega) (by omega) (by omega)]
      exact k3 g (by omega)
  · rw [e (8 + q) (by omega) (by omega) (by omega) (by omega) (by omega), e (12 + q) (by omega) (by omega) (by omega) (by omega) (by omega)]
    exact k4 q hq
theorem Kept.come {r s : Nat} {σ : Nat → Nat} (hn : σ 0 < 8) : Kept σ (cfU σ r s) := by
  refine Or.inr ⟨by unfold cfU; rw [zup_ne (by omega), zup_eq], by unfold cfU; rw [zup_eq]; omega, fun i hi => ?_⟩
  unfold cfU
  rw [zup_ne (by omega), zup_ne (by omega), zup_ne (by omega), zup_ne (by omega), zup_ne (by omega)]
theorem m_comeField {sc : Int32 × (Int32 → Int32)} {f : zF} {a : zA} {j : zJ} {d c : Nat} {σ : Nat → Nat} {x y : Int32} (hc : isC c) (hV : VC σ) (hR : CR c σ f a) : ∃ (f' : zF) (a' : zA), cf sc (d + 2) 9 [.ref c, .int x, .int y] f a j = some (some (.int (cfS σ x y).1), f', a', j) ∧ Did c σ (cfS σ x y).2 f f' a a' := by
  have hn := hV.1.1
  unfold cfS
  rw [en9]
  by_cases hx : zBtw x 0 3
  · by_cases hy : zBtw y 1 9
    · rw [if_pos ⟨hx, hy⟩]
      by_cases h8 : σ 0 < 8
      · rw [if_pos h8]
        obtain ⟨r, r1, r2, rfl⟩ := zBtw_of (by omega) (by omega) hx
        obtain ⟨s, s1, s2, rfl⟩ := zBtw_of (by omega) (by omega) hy
        rw [nI_clamp (n := r) (by omega), nI_clamp (n := s) (by omega)]
        have c1 : nI (σ 0) < nI 8 := nI_lt h8 (by omega)
        have i3 : zIx 21 (c + 3) (nI (σ 0)) := ixC3 hc h8
        have i4 : zIx 21 (c + 4) (nI (σ 0)) := ixC4 hc h8
        have e6 : f c 6 = nI (σ 0) := hR.1.1
        have es : nI (σ 0 + 1) - nI 1 = nI (σ 0) := pk_sub (by omega)
        refine ⟨zuF (zuF (zuF f c 5 (f c 5 &&& ((nI 1 <<< (nI (σ 0) &&& 31)) ^^^ (-1)))) (c + 5) 3 (nI 0)) c 6 (nI (σ 0 + 1)), zuA (zuA a (c + 3) (nI (σ 0)) (nI r)) (c + 4) (nI (σ 0)) (nI s), ?_, hR.come h8 (bt_clr h8), hV.come h8 (by omega) s1 s2, ⟨fun k q1 q2 => by rw [zuF_nk q1, zuF_nk q2, zuF_nk q1], fun k hk => by rw [zuA_nk (by omega), zuA_nk (by omega)]⟩, Kept.come h8⟩
        simp only [q9_0, q9_1, q9_2, q9_3, q9_6, q9_9, q9_10, q9_11, q9_13, q9_16, q9_19, q9_21, q9_22, q9_23, q9_26, q9_28, q9_31, q9_33, q9_34, q9_35, q9_38, q9_39, q9_42, q9_43, q9_44, q9_45, q9_48, q9_49, q9_52, q9_53, q9_54, q9_55, q9_56, q9_59, q9_60, q9_61, q9_64, q9_65, q9_66, q9_67, q9_68, q9_71, q9_72, q9_75, q9_76, q9_79, q9_80, q9_81, q9_84, q9_85, q9_86, q9_89, q9_90, q9_93, q9_94, q9_95, m_isWithin, eq_true hx, eq_true hy, hc, isC_R hc, c1, i3, i4, e6, es, zuF_nk (show c ≠ c + 5 by omega), zuF_eq, zuF_ni (show 6 ≠ 5 by omega), zCall_some, Option.toList, List.cons_append, List.nil_append, zb_0, zb_1, zem, z01, z11, nI_add, ↓reduceIte, not_true_eq_false, not_false_eq_true, n0T, n1F, n11T, true_or, or_true, false_or]
      · rw [if_neg h8]
        have c1 : ¬ nI (σ 0) < nI 8 := nI_nlt (by omega) (by omega)
        have e6 : f c 6 = nI (σ 0) := hR.1.1
        refine ⟨f, a, ?_, Did.rf hR hV⟩
        simp only [q9_0, q9_1, q9_2, q9_3, q9_6, q9_9, q9_10, q9_11, q9_13, q9_16, q9_19, q9_21, q9_22, q9_23, q9_26, q9_28, q9_31, q9_33, q9_34, q9_35, q9_38, q9_39, q9_42, q9_43, q9_44, q9_45, q9_48, q9_49, q9_52, q9_53, q9_54, q9_55, q9_56, q9_59, q9_60, q9_61, q9_64, q9_65, q9_66, q9_67, q9_68, q9_71, q9_72, q9_75, q9_76, q9_79, q9_80, q9_81, q9_84, q9_85, q9_86, q9_89, q9_90, q9_93, q9_94, q9_95, m_isWithin, eq_true hx, eq_true hy, hc, c1, e6, zCall_some, Option.toList, List.cons_append, List.nil_append, zb_0, zb_1, zem, z01, z11, nI_add, ↓reduceIte, not_true_eq_false, not_false_eq_true, n0T, n1F, n11T, true_or, or_true, false_or]
    · rw [if_neg (fun q => hy q.2)]
      refine ⟨f, a, ?_, Did.rf hR hV⟩
      simp only [q9_0, q9_1, q9_2, q9_3, q9_6, q9_9, q9_10, q9_11, q9_13, q9_16, q9_19, q9_21, q9_22, q9_23, q9_26, q9_28, q9_31, q9_33, q9_34, q9_35, q9_38, q9_39, q9_42, q9_43, q9_44, q9_45, q9_48, q9_49, q9_52, q9_53, q9_54, q9_55, q9_56, q9_59, q9_60, q9_61, q9_64, q9_65, q9_66, q9_67, q9_68, q9_71, q9_72, q9_75, q9_76, q9_79, q9_80, q9_81, q9_84, q9_85, q9_86, q9_89, q9_90, q9_93, q9_94, q9_95, m_isWithin, eq_true hx, eq_false hy, zCall_some, Option.toList, List.cons_append, List.nil_append, zb_0, zb_1, zem, z01, z11, nI_add, ↓reduceIte, not_true_eq_false, not_false_eq_true, n0T, n1F, n11T, true_or, or_true, false_or]
  · rw [if_neg (fun q => hx q.1)]
    refine ⟨f, a, ?_, Did.rf hR hV⟩
    simp only [q9_0, q9_1, q9_2, q9_3, q9_6, q9_9, q9_10, q9_11, q9_13, q9_16, q9_19, q9_21, q9_22, q9_23, q9_26, q9_28, q9_31, q9_33, q9_34, q9_35, q9_38, q9_39, q9_42, q9_43, q9_44, q9_45, q9_48, q9_49, q9_52, q9_53, q9_54, q9_55, q9_56, q9_59, q9_60, q9_61, q9_64, q9_65, q9_66, q9_67, q9_68, q9_71, q9_72, q9_75, q9_76, q9_79, q9_80, q9_81, q9_84, q9_85, q9_86, q9_89, q9_90, q9_93, q9_94, q9_95, m_isWithin, eq_false hx, zCall_some, Option.toList, List.cons_append, List.nil_append, zb_0, zb_1, zem, z01, z11, nI_add, ↓reduceIte, not_true_eq_false, not_false_eq_true, n0T, n1F, n11T, true_or, or_true, false_or]
