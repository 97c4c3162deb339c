/-! ===== the reference: the text read ===== -/
def hrF (tx : Nat → Nat) (tn p : Nat) : Int32 := if p < tn then nI (tx p) else -1
theorem MX.up {tx : Nat → Nat} {tn : Nat} {f f' : zF} {a a' : zA} (h : MX tx tn f a) (h1 : f' 85 18 = f 85 18) (h2 : a' 98 = a 98) : MX tx tn f' a' := ⟨by rw [h1]; exact h.1, fun i hi => by rw [h2]; exact h.2 i hi⟩
theorem m_here {sc : Int32 × (Int32 → Int32)} {f : zF} {a : zA} {j : zJ} {d tn p : Nat} {tx : Nat → Nat} (hT : MX tx tn f a) (hV : VX tx tn) (h9 : f 85 19 = nI p) (hp : p ≤ 1000) : cf sc (d + 1) 139 [.ref 85] f a j = some (some (.int (hrF tx tn p)), f, a, j) := by
  obtain ⟨t1, t2⟩ := hT
  have h100 := hV.1
  rw [en139]
  unfold hrF
  by_cases h : p < tn
  · have c1 : ¬ nI tn ≤ nI p := nI_ge h (by omega)
    have ix : zIx 21 98 (nI p) := ix98 (by omega)
    rw [if_pos h]
    simp only [q139_0, q139_1, q139_4, q139_5, q139_8, q139_11, q139_12, q139_15, q139_16, q139_19, q139_20, q139_23, q139_24, t1, h9, c1, ix, t2 p h, zCall_some, Option.toList, List.cons_append, List.nil_append, zb_0, zb_1, zem, z01, z11, nI_add, ↓reduceIte, not_true_eq_false, not_false_eq_true, n0T, n1F, n11T, true_or, or_true, false_or]
  · have c1 : nI tn ≤ nI p := nI_le (by omega) (by omega)
    rw [if_neg h]
    simp only [q139_0, q139_1, q139_4, q139_5, q139_8, q139_11, q139_12, q139_15, q139_16, q139_19, q139_20, q139_23, q139_24, t1, h9, c1, zCall_some, Option.toList, List.cons_append, List.nil_append, zb_0, zb_1, zem, z01, z11, nI_add, ↓reduceIte, not_true_eq_false, not_false_eq_true, n0T, n1F, n11T, true_or, or_true, false_or]
theorem m_isDig {sc : Int32 × (Int32 → Int32)} {f : zF} {a : zA} {j : zJ} {d tn p : Nat} {tx : Nat → Nat} (hV : VX tx tn) : cf sc (d + 1) 140 [.int (hrF tx tn p)] f a j = some (some (.int (zb (dgA tx tn p = true))), f, a, j) := by
  rw [en140]
  unfold hrF
  by_cases h : p < tn
  · have h128 := hV.2 p h
    rw [if_pos h]
    by_cases h1 : tx p < 48
    · have c1 : nI (tx p) < nI 48 := nI_lt h1 (by omega)
      rw [zb_f (fun q => by have := dg_lt q; omega)]
      simp only [q140_0, q140_1, q140_3, q140_6, q140_7, q140_9, q140_12, q140_13, q140_16, q140_17, c1, zCall_some, Option.toList, List.cons_append, List.nil_append, zb_0, zb_1, zem, z01, z11, nI_add, ↓reduceIte, not_true_eq_false, not_false_eq_true, n0T, n1F, n11T, true_or, or_true, false_or]
    · have c1 : ¬ nI (tx p) < nI 48 := nI_nlt (by omega) (by omega)
      by_cases h2 : 57 < tx p
      · have c2 : nI 57 < nI (tx p) := nI_lt h2 (by omega)
        rw [zb_f (fun q => by have := dg_lt q; omega)]
        simp only [q140_0, q140_1, q140_3, q140_6, q140_7, q140_9, q140_12, q140_13, q140_16, q140_17, c1, c2, zCall_some, Option.toList, List.cons_append, List.nil_append, zb_0, zb_1, zem, z01, z11, nI_add, ↓reduceIte, not_true_eq_false, not_false_eq_true, n0T, n1F, n11T, true_or, or_true, false_or]
      · have c2 : ¬ nI 57 < nI (tx p) := nI_nlt (by omega) (by omega)
        rw [zb_t (show dgA tx tn p = true from decide_eq_true ⟨h, by omega, by omega⟩)]
        simp only [q140_0, q140_1, q140_3, q140_6, q140_7, q140_9, q140_12, q140_13, q140_16, q140_17, c1, c2, zCall_some, Option.toList, List.cons_append, List.nil_append, zb_0, zb_1, zem, z01, z11, nI_add, ↓reduceIte, not_true_eq_false, not_false_eq_true, n0T, n1F, n11T, true_or, or_true, false_or]
  · rw [if_neg h, zb_f (fun q => by have := dg_lt q; omega)]
    have c1 : (-1 : Int32) < nI 48 := by decide
    simp only [q140_0, q140_1, q140_3, q140_6, q140_7, q140_9, q140_12, q140_13, q140_16, q140_17, c1, zCall_some, Option.toList, List.cons_append, List.nil_append, zb_0, zb_1, zem, z01, z11, nI_add, ↓reduceIte, not_true_eq_false, not_false_eq_true, n0T, n1F, n11T, true_or, or_true, false_or]
theorem m_dOk {sc : Int32 × (Int32 → Int32)} {f : zF} {a : zA} {j : zJ} {d tn p : Nat} {tx : Nat → Nat} (hT : MX tx tn f a) (hV : VX tx tn) (h20 : f 85 20 = nI 0) (h9 : f 85 19 = nI p) (hd : dgA tx tn p = true) : cf sc (d + 2) 141 [.ref 85] f a j = some (some (.int (nI (tx p - 48))), zuF f 85 19 (nI (p + 1)), a, j) := by
  obtain ⟨d1, d2, d3⟩ := dg_lt hd
  have h100 := hV.1
  have hH := m_here (sc := sc) (d := d) (f := f) (a := a) (j := j) hT hV h9 (by omega)
  have es : nI (p + 1) - nI 1 = nI p := by rw [pk_sub (by omega)]; rfl
  have es2 : nI (tx p) - nI 48 = nI (tx p - 48) := pk_sub d2
  have ix : zIx 21 98 (nI p) := ix98 (by omega)
  rw [en141]
  simp only [q141_0, q141_1, q141_4, q141_7, q141_8, q141_11, q141_14, q141_17, q141_18, q141_19, q141_22, q141_23, q141_24, q141_25, q141_26, q141_29, q141_30, q141_31, q141_34, q141_35, q141_38, q141_39, q141_42, q141_43, q141_44, q141_45, q141_47, q141_48, h20, hH, m_isDig hV, eq_true hd, h9, zuF_eq, es, ix, hT.2 p d1, es2, zCall_some, Option.toList, List.cons_append, List.nil_append, zb_0, zb_1, zem, z01, z11, nI_add, ↓reduceIte, not_true_eq_false, not_false_eq_true, n0T, n1F, n11T, true_or, or_true, false_or]
theorem m_dNo {sc : Int32 × (Int32 → Int32)} {f : zF} {a : zA} {j : zJ} {d tn p : Nat} {tx : Nat → Nat} (hT : MX tx tn f a) (hV : VX tx tn) (h9 : f 85 19 = nI p) (hp : p ≤ 1000) (h : f 85 20 = nI 1 ∨ (f 85 20 = nI 0 ∧ ¬ dgA tx tn p = true)) : cf sc (d + 2) 141 [.ref 85] f a j = some (some (.int (nI 0)), zuF f 85 20 (nI 1), a, j) := by
  have hH := m_here (sc := sc) (d := d) (f := f) (a := a) (j := j) hT hV h9 hp
  rw [en141]
  rcases h with h | ⟨h, hd⟩
  · simp only [q141_0, q141_1, q141_4, q141_7, q141_8, q141_11, q141_14, q141_17, q141_18, q141_19, q141_22, q141_23, q141_24, q141_25, q141_26, q141_29, q141_30, q141_31, q141_34, q141_35, q141_38, q141_39, q141_42, q141_43, q141_44, q141_45, q141_47, q141_48, h, zCall_some, Option.toList, List.cons_append, List.nil_append, zb_0, zb_1, zem, z01, z11, nI_add, ↓reduceIte, not_true_eq_false, not_false_eq_true, n0T, n1F, n11T, true_or, or_true, false_or]
  · simp only [q141_0, q141_1, q141_4, q141_7, q141_8, q141_11, q141_14, q141_17, q141_18, q141_19, q141_22, q141_23, q141_24, q141_25, q141_26, q141_29, q141_30, q141_31, q141_34, q141_35, q141_38, q141_39, q141_42, q141_43, q141_44, q141_45, q141_47, q141_48, h, hH, m_isDig hV, eq_false hd, zCall_some, Option.toList, List.cons_append, List.nil_append, zb_0, zb_1, zem, z01, z11, nI_add, ↓reduceIte, not_true_eq_false, not_false_eq_true, n0T, n1F, n11T, true_or, or_true, false_or]
theorem m_nNo {sc : Int32 × (Int32 → Int32)} {f : zF} {a : zA} {j : zJ} {d tn p : Nat} {tx : Nat → Nat} (hT : MX tx tn f a) (hV : VX tx tn) (h9 : f 85 19 = nI p) (hp : p ≤ 1000) (h : f 85 20 = nI 1 ∨ (f 85 20 = nI 0 ∧ ¬ dgA tx tn p = true)) : cf sc (d + 3) 142 [.ref 85] f a j = some (some (.int (nI 0)), zuF f 85 20 (nI 1), a, j) := by
  have hD := m_dNo (sc := sc) (d := d) (f := f) (a := a) (j := j) hT hV h9 hp h
  rw [en142]
  simp only [q142_0, q142_1, q142_4, q142_5, q142_6, q142_9, q142_12, q142_13, q142_16, q142_19, q142_22, q142_24, q142_25, q142_26, q142_27, q142_30, q142_31, q142_34, q142_35, hD, zuF_eq, zCall_some, Option.toList, List.cons_append, List.nil_append, zb_0, zb_1, zem, z01, z11, nI_add, ↓reduceIte, not_true_eq_false, not_false_eq_true, n0T, n1F, n11T, true_or, or_true, false_or]
theorem m_nOk1 {sc : Int32 × (Int32 → Int32)} {f : zF} {a : zA} {j : zJ} {d tn p : Nat} {tx : Nat → Nat} (hT : MX tx tn f a) (hV : VX tx tn) (h20 : f 85 20 = nI 0) (h9 : f 85 19 = nI p) (hd : dgA tx tn p = true) (hd2 : ¬ dgA tx tn (p + 1) = true) : cf sc (d + 3) 142 [.ref 85] f a j = some (some (.int (nI (tx p - 48))), zuF f 85 19 (nI (p + 1)), a, j) := by
  have d1 := dg_lt hd
  have h100 := hV.1
  have hD := m_dOk (sc := sc) (d := d) (f := f) (a := a) (j := j) hT hV h20 h9 hd
  have e20 : zuF f 85 19 (nI (p + 1)) 85 20 = nI 0 := by rw [zuF_ni (by omega)]; exact h20
  have hH := m_here (sc := sc) (d := d + 1) (f := zuF f 85 19 (nI (p + 1))) (a := a) (j := j) (p := p + 1) (hT.up (zuF_ni (by omega)) rfl) hV zuF_eq (by omega)
  rw [en142]
  simp only [q142_0, q142_1, q142_4, q142_5, q142_6, q142_9, q142_12, q142_13, q142_16, q142_19, q142_22, q142_24, q142_25, q142_26, q142_27, q142_30, q142_31, q142_34, q142_35, hD, e20, hH, m_isDig hV, eq_false hd2, zCall_some, Option.toList, List.cons_append, List.nil_append, zb_0, zb_1, zem, z01, z11, nI_add, ↓reduceIte, not_true_eq_false, not_false_eq_true, n0T, n1F, n11T, true_or, or_true, false_or]
theorem m_nOk2 {sc : Int32 × (Int32 → Int32)} {f : zF} {a : zA} {j : zJ} {d tn p : Nat} {tx : Nat → Nat} (hT : MX tx tn f a) (hV : VX tx tn) (h20 : f 85 20 = nI 0) (h9 : f 85 19 = nI p) (hd : dgA tx tn p = true) (hd2 : dgA tx tn (p + 1) = true) : cf sc (d + 3) 142 [.ref 85] f a j = some (some (.int (nI (10 * (tx p - 48) + (tx (p + 1) - 48)))), zuF (zuF f 85 19 (nI (p + 1))) 85 19 (nI (p + 2)), a, j) := by
  have d1 := dg_lt hd
  have h100 := hV.1
  have hD := m_dOk (sc := sc) (d := d) (f := f) (a := a) (j := j) hT hV h20 h9 hd
  have e20 : zuF f 85 19 (nI (p + 1)) 85 20 = nI 0 := by rw [zuF_ni (by omega)]; exact h20
  have hT1 : MX tx tn (zuF f 85 19 (nI (p + 1))) a := hT.up (zuF_ni (by omega)) rfl
  have hH := m_here (sc := sc) (d := d + 1) (f := zuF f 85 19 (nI (p + 1))) (a := a) (j := j) (p := p + 1) hT1 hV zuF_eq (by omega)
  have hD2 := m_dOk (sc := sc) (d := d) (f := zuF f 85 19 (nI (p + 1))) (a := a) (j := j) (p := p + 1) hT1 hV e20 zuF_eq hd2
  rw [en142]
  simp only [q142_0, q142_1, q142_4, q142_5, q142_6, q142_9, q142_12, q142_13, q142_16, q142_19, q142_22, q142_24, q142_25, q142_26, q142_27, q142_30, q142_31, q142_34, q142_35, hD, e20, hH, m_isDig hV, eq_true hd2, hD2, pk_mul, zCall_some, Option.toList, List.cons_append, List.nil_append, zb_0, zb_1, zem, z01, z11, nI_add, ↓reduceIte, not_true_eq_false, not_false_eq_true, n0T, n1F, n11T, true_or, or_true, false_or]
/-- a CLAUSE as the reference holds it -/
def MCL (tx : Nat → Nat) (tn k p : Nat) (a : zA) : Prop := a 99 (nI k) = nI (tx p) ∧ a 100 (nI k) = nI (vlF tx tn p 0) ∧ (2 ≤ nmF (tx p) → a 101 (nI k) = nI (vlF tx tn p 1)) ∧ (3 ≤ nmF (tx p) → a 102 (nI k) = nI (vlF tx tn p 2))
/-- one CLAUSE's cells alone have changed -/
def MFK (k : Nat) (f f' : zF) (a a' : zA) : Prop := (∀ q, q ≠ 85 → f' q = f q) ∧ (∀ q, q ≠ 19 → q ≠ 20 → q ≠ 21 → f' 85 q = f 85 q) ∧ (∀ q, (q < 99 ∨ 102 < q) → a' q = a q) ∧ ∀ q i, i < 12 → i ≠ k → a' q (nI i) = a q (nI i)
theorem MFK.F {k i : Nat} {f f' : zF} {a a' : zA} {x : Int32} (h : MFK k f f' a a') (hi : i = 19 ∨ i = 20 ∨ i = 21) : MFK k f (zuF f' 85 i x) a a' := ⟨fun q hq => by rw [zuF_nk hq]; exact h.1 q hq, fun q h1 h2 h3 => by rw [zuF_ni (by omega)]; exact h.2.1 q h1 h2 h3, h.2.2.1, h.2.2.2⟩
theorem MFK.A {k c : Nat} {f f' : zF} {a a' : zA} {x : Int32} (h : MFK k f f' a a') (hk : k < 12) (hc : 99 ≤ c ∧ c ≤ 102) : MFK k f f' a (zuA a' c (nI k) x) := ⟨h.1, h.2.1, fun q hq => by rw [zuA_nk (by omega)]; exact h.2.2.1 q hq, fun q i h1 h2 => by rw [zuA_ni (nI_ne (by omega) (by omega) h2)]; exact h.2.2.2 q i h1 h2⟩
theorem MFK.rf {k : Nat} {f : zF} {a : zA} : MFK k f f a a := ⟨fun _ _ => rfl, fun _ _ _ _ => rfl, fun _ _ => rfl, fun _ _ _ _ => rfl⟩
theorem fdN1 (tx : Nat → Nat) (tn q : Nat) : fdN tx tn q 1 = if dgA tx tn q = true then 1 else 0 := by
  rw [fdN_s]
  show (if (0 : Nat) = 0 ∧ dgA tx tn (q + 0) = true then _ else _) = _
  by_cases h : dgA tx tn q = true
  · rw [if_pos ⟨rfl, h⟩, if_pos h]
  · rw [if_neg (fun z => h z.2), if_neg h]; rfl
theorem fdN2 (tx : Nat → Nat) (tn q : Nat) : fdN tx tn q 2 = if dgA tx tn q = true then (if dgA tx tn (q + 1) = true then 2 else 1) else 0 := by
  rw [fdN_s, fdN1]
  by_cases h : dgA tx tn q = true
  · rw [if_pos h, if_pos h]
    by_cases h2 : dgA tx tn (q + 1) = true
    · rw [if_pos ⟨rfl, h2⟩, if_pos h2]
    · rw [if_neg (fun z => h2 z.2), if_neg h2]
  · rw [if_neg h, if_neg h, if_neg (fun z => by have := z.1; omega)]
theorem fdN3 (tx : Nat → Nat) (tn q : Nat) : fdN tx tn q 3 = if dgA tx tn q = true then (if dgA tx tn (q + 1) = true then (if dgA tx tn (q + 2) = true then 3 else 2) else 1) else 0 := by
  rw [fdN_s, fdN2]
  by_cases h : dgA tx tn q = true
  · rw [if_pos h, if_pos h]
    by_cases h2 : dgA tx tn (q + 1) = true
    · rw [if_pos h2, if_pos h2]
      by_cases h3 : dgA tx tn (q + 2) = true
      · rw [if_pos ⟨rfl, h3⟩, if_pos h3]
      · rw [if_neg (fun z => h3 z.2), if_neg h3]
    · rw [if_neg h2, if_neg h2, if_neg (fun z => by have := z.1; omega)]
  · rw [if_neg h, if_neg h, if_neg (fun z => by have := z.1; omega)]
theorem ck_yes {tx : Nat → Nat} {tn p n : Nat} (h1 : p < tn) (hm : nmF (tx p) = n) (h0 : n ≠ 0) (hf : fdN tx tn (p + 1) n = n) : ckB tx tn p = true := decide_eq_true ⟨h1, by rw [hm]; exact h0, by rw [hm]; exact hf⟩
theorem ck_no {tx : Nat → Nat} {tn p n q : Nat} (h1 : p < tn) (hm : nmF (tx p) = n) (h0 : n ≠ 0) (hf : fdN tx tn (p + 1) n = q) (hq : q ≠ n) : ¬ ckB tx tn p = true ∧ fltP tx tn p = p + 1 + q := by
  refine ⟨fun z => ?_, ?_⟩
  · have z := of_decide_eq_true z
    rw [hm] at z
    have := z.2.2
    omega
  · unfold fltP
    have hc : ¬ (tn ≤ p ∨ nmF (tx p) = 0) := by
      rintro (z | z) <;> omega
    rw [if_neg hc, hm, hf]
theorem lx_yes {tx : Nat → Nat} {tn p n : Nat} (hx : tx p = 99 ∨ tx p = 104) (hm : nmF (tx p) = n) (hd : dgA tx tn (p + 1 + n) = true) : lxB tx tn p = true := (Bool.and_eq_true _ _).mpr ⟨decide_eq_true hx, by rw [hm]; exact hd⟩
theorem lx_no {tx : Nat → Nat} {tn p n : Nat} (hm : nmF (tx p) = n) (hd : ¬ dgA tx tn (p + 1 + n) = true) : ¬ lxB tx tn p = true := fun z => by
  obtain ⟨-, z2⟩ := (Bool.and_eq_true _ _).mp z
  rw [hm] at z2
  exact hd z2
theorem lx_no2 {tx : Nat → Nat} {tn p : Nat} (hx : ¬ (tx p = 99 ∨ tx p = 104)) : ¬ lxB tx tn p = true := fun z => by
  obtain ⟨z1, -⟩ := (Bool.and_eq_true _ _).mp z
  exact hx (of_decide_eq_true z1)
theorem vl_one {tx : Nat → Nat} {tn p i : Nat} (h : ¬ (i + 1 = nmF (tx p) ∧ lxB tx tn p = true)) : vlF tx tn p i = tx (p + 1 + i) - 48 := if_neg h
theorem vl_two {tx : Nat → Nat} {tn p i : Nat} (h : i + 1 = nmF (tx p)) (hx : lxB tx tn p = true) : vlF tx tn p i = 10 * (tx (p + 1 + i) - 48) + (tx (p + 1 + i + 1) - 48) := by
  unfold vlF
  rw [if_pos ⟨h, hx⟩, Nat.mul_comm, ← h]
  rfl
def ClR (tx : Nat → Nat) (tn k p : Nat) (f f' : zF) (a a' : zA) : Prop := (ckB tx tn p = true → f' 85 20 = nI 0 ∧ f' 85 19 = nI (clE tx tn p) ∧ f' 85 21 = nI (k + 1) ∧ MCL tx tn k p a') ∧ (¬ ckB tx tn p = true → f' 85 20 = nI 1 ∧ f' 85 19 = nI (fltP tx tn p)) ∧ MFK k f f' a a'

theorem cl_f {sc : Int32 × (Int32 → Int32)} {f : zF} {a : zA} {j : zJ} {d tn p k : Nat} {tx : Nat → Nat} (hT : MX tx tn f a) (hV : VX tx tn) (hp : p < tn) (hx : tx p = 102) (hk : k < 12) (h9 : f 85 19 = nI p) (h20 : f 85 20 = nI 0) (h21 : f 85 21 = nI k) : ∃ (f' : zF) (a' : zA), cf sc (d + 4) 143 [.ref 85] f a j = some (none, f', a', j) ∧ ClR tx tn k p f f' a a' := by
  have h100 := hV.1
  have hm : nmF (tx p) = 2 := by rw [hx]; rfl
  have hH := m_here (sc := sc) (d := d + 2) (f := f) (a := a) (j := j) hT hV h9 (by omega)
  unfold hrF at hH
  rw [if_pos hp, hx] at hH
  have c12 : ¬ nI k = nI 12 := nI_ne (by omega) (by omega) (by omega)
  have ix99' : zIx 21 99 (nI k) := ix99 hk
  have ix100' : zIx 21 100 (nI k) := ix100 hk
  have ix101' : zIx 21 101 (nI k) := ix101 hk
  have ix102' : zIx 21 102 (nI k) := ix102 hk
  have lq : ∀ x y, x < 200 → y < 200 → x ≠ y → ¬ nI x = nI y := fun x y h1 h2 h => nI_ne (by omega) (by omega) h
  rw [en143]
  unfold ClR MCL
  have lx : ¬ lxB tx tn p = true := lx_no2 (by omega)
  by_cases d1 : dgA tx tn (p + 1) = true
  · by_cases d2 : dgA tx tn (p + 2) = true
    · have ck : ckB tx tn p = true := ck_yes hp hm (by omega) (by rw [fdN2, if_pos d1, if_pos d2])
      have c0 := m_dOk (sc := sc) (d := d + 1) (f := (zuF f 85 19 (nI (p + 1)))) (a := (zuA a 99 (nI k) (nI 102))) (j := j) (p := p + 1) (hT.up (by simp [zuF]) (by simp [zuA_nk])) hV (by simp [zuF, h20]) (by simp [zuF]) d1
      have c1 := m_dOk (sc := sc) (d := d + 1) (f := (zuF (zuF f 85 19 (nI (p + 1))) 85 19 (nI (p + 2)))) (a := (zuA (zuA a 99 (nI k) (nI 102)) 100 (nI k) (nI (tx (p + 1) - 48)))) (j := j) (p := p + 2) (hT.up (by simp [zuF]) (by simp [zuA_nk])) hV (by simp [zuF, h20]) (by simp [zuF]) d2
      have g0 : (zuF f 85 19 (nI (p + 1))) 85 21 = nI k := by simp [zuF, h21]
      have g1 : (zuF (zuF f 85 19 (nI (p + 1))) 85 19 (nI (p + 2))) 85 21 = nI k := by simp [zuF, h21]
      have g2 : (zuF (zuF (zuF f 85 19 (nI (p + 1))) 85 19 (nI (p + 2))) 85 19 (nI (p + 3))) 85 21 = nI k := by simp [zuF, h21]
      refine ⟨(zuF (zuF (zuF (zuF f 85 19 (nI (p + 1))) 85 19 (nI (p + 2))) 85 19 (nI (p + 3))) 85 21 (nI (k + 1))), (zuA (zuA (zuA (zuA a 99 (nI k) (nI 102)) 100 (nI k) (nI (tx (p + 1) - 48))) 101 (nI k) (nI (tx (p + 2) - 48))) 102 (nI k) (nI 0)), ?_, ?_, ?_, (((((((MFK.rf.F (i := 19) (x := nI (p + 1)) (by omega)).A (c := 99) (x := nI 102) hk (by omega)).F (i := 19) (x := nI (p + 2)) (by omega)).A (c := 100) (x := nI (tx (p + 1) - 48)) hk (by omega)).F (i := 19) (x := nI (p + 3)) (by omega)).A (c := 101) (x := nI (tx (p + 2) - 48)) hk (by omega)).A (c := 102) (x := nI 0) hk (by omega)).F (i := 21) (x := nI (k + 1)) (by omega)⟩
      · simp only [q143_0, q143_1, q143_4, q143_5, q143_6, q143_9, q143_11, q143_14, q143_15, q143_17, q143_20, q143_21, q143_23, q143_26, q143_27, q143_29, q143_32, q143_33, q143_35, q143_38, q143_39, q143_41, q143_44, q143_45, q143_47, q143_50, q143_51, q143_52, q143_55, q143_56, q143_57, q143_58, q143_61, q143_62, q143_63, q143_66, q143_67, q143_70, q143_71, q143_74, q143_75, q143_76, q143_77, q143_80, q143_81, q143_84, q143_85, q143_87, q143_90, q143_91, q143_94, q143_97, q143_98, q143_101, q143_102, q143_103, q143_106, q143_107, q143_110, q143_111, q143_113, q143_116, q143_117, q143_119, q143_122, q143_123, q143_126, q143_129, q143_130, q143_131, q143_132, q143_135, q143_136, q143_139, q143_140, q143_142, q143_145, q143_146, q143_149, q143_152, q143_153, q143_154, q143_155, q143_156, q143_159, q143_160, q143_161, q143_164, hH, h9, c12, ix99', ix100', ix101', ix102', lq 102 99 (by omega) (by omega) (by omega), lq 102 104 (by omega) (by omega) (by omega), lq 102 117 (by omega) (by omega) (by omega), lq 102 97 (by omega) (by omega) (by omega), lq 102 112 (by omega) (by omega) (by omega), c0, c1, h21, g0, g1, g2, zCall_some, Option.toList, List.cons_append, List.nil_append, zb_0, zb_1, zem, z01, z11, nI_add, ↓reduceIte, not_true_eq_false, not_false_eq_true, n0T, n1F, n11T, true_or, or_true, false_or]
      · intro _
        refine ⟨by simp [zuF, h20], ?_, by simp [zuF], ?_, ?_, ?_, ?_⟩
        · rw [zuF_ni (by omega), show clE tx tn p = p + 3 from by unfold clE; rw [hm, if_neg lx]]; exact zuF_eq
        · rw [hx]; simp [zuA]
        · rw [vl_one (fun z => by have := z.1; omega)]; simp [zuA]
        · intro _; rw [vl_one (fun z => lx z.2)]; simp [zuA]
        · intro z; rw [hm] at z; omega
      · exact fun z => absurd ck z
    · have ck := ck_no (q := 1) hp hm (by omega) (by rw [fdN2, if_pos d1, if_neg d2]) (by omega)
      have c0 := m_dOk (sc := sc) (d := d + 1) (f := (zuF f 85 19 (nI (p + 1)))) (a := (zuA a 99 (nI k) (nI 102))) (j := j) (p := p + 1) (hT.up (by simp [zuF]) (by simp [zuA_nk])) hV (by simp [zuF, h20]) (by simp [zuF]) d1
      have c1 := m_dNo (sc := sc) (d := d + 1) (f := (zuF (zuF f 85 19 (nI (p + 1))) 85 19 (nI (p + 2)))) (a := (zuA (zuA a 99 (nI k) (nI 102)) 100 (nI k) (nI (tx (p + 1) - 48)))) (j := j) (p := p + 2) (hT.up (by simp [zuF]) (by simp [zuA_nk])) hV (by simp [zuF]) (by omega) (Or.inr ⟨by simp [zuF, h20], d2⟩)
      have g0 : (zuF f 85 19 (nI (p + 1))) 85 21 = nI k := by simp [zuF, h21]
      have g1 : (zuF (zuF f 85 19 (nI (p + 1))) 85 19 (nI (p + 2))) 85 21 = nI k := by simp [zuF, h21]
      have g2 : (zuF (zuF (zuF f 85 19 (nI (p + 1))) 85 19 (nI (p + 2))) 85 20 (nI 1)) 85 21 = nI k := by simp [zuF, h21]
      refine ⟨(zuF (zuF (zuF (zuF f 85 19 (nI (p + 1))) 85 19 (nI (p + 2))) 85 20 (nI 1)) 85 21 (nI (k + 1))), (zuA (zuA (zuA (zuA a 99 (nI k) (nI 102)) 100 (nI k) (nI (tx (p + 1) - 48))) 101 (nI k) (nI 0)) 102 (nI k) (nI 0)), ?_, ?_, ?_, (((((((MFK.rf.F (i := 19) (x := nI (p + 1)) (by omega)).A (c := 99) (x := nI 102) hk (by omega)).F (i := 19) (x := nI (p + 2)) (by omega)).A (c := 100) (x := nI (tx (p + 1) - 48)) hk (by omega)).F (i := 20) (x := nI 1) (by omega)).A (c := 101) (x := nI 0) hk (by omega)).A (c := 102) (x := nI 0) hk (by omega)).F (i := 21) (x := nI (k + 1)) (by omega)⟩
      · simp only [q143_0, q143_1, q143_4, q143_5, q143_6, q143_9, q143_11, q143_14, q143_15, q143_17, q143_20, q143_21, q143_23, q143_26, q143_27, q143_29, q143_32, q143_33, q143_35, q143_38, q143_39, q143_41, q143_44, q143_45, q143_47, q143_50, q143_51, q143_52, q143_55, q143_56, q143_57, q143_58, q143_61, q143_62, q143_63, q143_66, q143_67, q143_70, q143_71, q143_74, q143_75, q143_76, q143_77, q143_80, q143_81, q143_84, q143_85, q143_87, q143_90, q143_91, q143_94, q143_97, q143_98, q143_101, q143_102, q143_103, q143_106, q143_107, q143_110, q143_111, q143_113, q143_116, q143_117, q143_119, q143_122, q143_123, q143_126, q143_129, q143_130, q143_131, q143_132, q143_135, q143_136, q143_139, q143_140, q143_142, q143_145, q143_146, q143_149, q143_152, q143_153, q143_154, q143_155, q143_156, q143_159, q143_160, q143_161, q143_164, hH, h9, c12, ix99', ix100', ix101', ix102', lq 102 99 (by omega) (by omega) (by omega), lq 102 104 (by omega) (by omega) (by omega), lq 102 117 (by omega) (by omega) (by omega), lq 102 97 (by omega) (by omega) (by omega), lq 102 112 (by omega) (by omega) (by omega), c0, c1, h21, g0, g1, g2, zCall_some, Option.toList, List.cons_append, List.nil_append, zb_0, zb_1, zem, z01, z11, nI_add, ↓reduceIte, not_true_eq_false, not_false_eq_true, n0T, n1F, n11T, true_or, or_true, false_or]
      · exact fun z => absurd z ck.1
      · intro _
        rw [ck.2]
        exact ⟨by simp [zuF], by simp [zuF]⟩
  · have ck := ck_no (q := 0) hp hm (by omega) (by rw [fdN2, if_neg d1]) (by omega)
    have c0 := m_dNo (sc := sc) (d := d + 1) (f := (zuF f 85 19 (nI (p + 1)))) (a := (zuA a 99 (nI k) (nI 102))) (j := j) (p := p + 1) (hT.up (by simp [zuF]) (by simp [zuA_nk])) hV (by simp [zuF]) (by omega) (Or.inr ⟨by simp [zuF, h20], d1⟩)
    have c1 := m_dNo (sc := sc) (d := d + 1) (f := (zuF (zuF f 85 19 (nI (p + 1))) 85 20 (nI 1))) (a := (zuA (zuA a 99 (nI k) (nI 102)) 100 (nI k) (nI 0))) (j := j) (p := p + 1) (hT.up (by simp [zuF]) (by simp [zuA_nk])) hV (by simp [zuF]) (by omega) (Or.inl (by simp [zuF]))
    have g0 : (zuF f 85 19 (nI (p + 1))) 85 21 = nI k := by simp [zuF, h21]
    have g1 : (zuF (zuF f 85 19 (nI (p + 1))) 85 20 (nI 1)) 85 21 = nI k := by simp [zuF, h21]
    have g2 : (zuF (zuF (zuF f 85 19 (nI (p + 1))) 85 20 (nI 1)) 85 20 (nI 1)) 85 21 = nI k := by simp [zuF, h21]
    refine ⟨(zuF (zuF (zuF (zuF f 85 19 (nI (p + 1))) 85 20 (nI 1)) 85 20 (nI 1)) 85 21 (nI (k + 1))), (zuA (zuA (zuA (zuA a 99 (nI k) (nI 102)) 100 (nI k) (nI 0)) 101 (nI k) (nI 0)) 102 (nI k) (nI 0)), ?_, ?_, ?_, (((((((MFK.rf.F (i := 19) (x := nI (p + 1)) (by omega)).A (c := 99) (x := nI 102) hk (by omega)).F (i := 20) (x := nI 1) (by omega)).A (c := 100) (x := nI 0) hk (by omega)).F (i := 20) (x := nI 1) (by omega)).A (c := 101) (x := nI 0) hk (by omega)).A (c := 102) (x := nI 0) hk (by omega)).F (i := 21) (x := nI (k + 1)) (by omega)⟩
    · simp only [q143_0, q143_1, q143_4, q143_5, q143_6, q143_9, q143_11, q143_14, q143_15, q143_17, q143_20, q143_21, q143_23, q143_26, q143_27, q143_29, q143_32, q143_33, q143_35, q143_38, q143_39, q143_41, q143_44, q143_45, q143_47, q143_50, q143_51, q143_52, q143_55, q143_56, q143_57, q143_58, q143_61, q143_62, q143_63, q143_66, q143_67, q143_70, q143_71, q143_74, q143_75, q143_76, q143_77, q143_80, q143_81, q143_84, q143_85, q143_87, q143_90, q143_91, q143_94, q143_97, q143_98, q143_101, q143_102, q143_103, q143_106, q143_107, q143_110, q143_111, q143_113, q143_116, q143_117, q143_119, q143_122, q143_123, q143_126, q143_129, q143_130, q143_131, q143_132, q143_135, q143_136, q143_139, q143_140, q143_142, q143_145, q143_146, q143_149, q143_152, q143_153, q143_154, q143_155, q143_156, q143_159, q143_160, q143_161, q143_164, hH, h9, c12, ix99', ix100', ix101', ix102', lq 102 99 (by omega) (by omega) (by omega), lq 102 104 (by omega) (by omega) (by omega), lq 102 117 (by omega) (by omega) (by omega), lq 102 97 (by omega) (by omega) (by omega), lq 102 112 (by omega) (by omega) (by omega), c0, c1, h21, g0, g1, g2, zCall_some, Option.toList, List.cons_append, List.nil_append, zb_0, zb_1, zem, z01, z11, nI_add, ↓reduceIte, not_true_eq_false, not_false_eq_true, n0T, n1F, n11T, true_or, or_true, false_or]
    · exact fun z => absurd z ck.1
    · intro _
      rw [ck.2]
      exact ⟨by simp [zuF], by simp [zuF]⟩
theorem cl_c {sc : Int32 × (Int32 → Int32)} {f : zF} {a : zA} {j : zJ} {d tn p k : Nat} {tx : Nat → Nat} (hT : MX tx tn f a) (hV : VX tx tn) (hp : p < tn) (hx : tx p = 99) (hk : k < 12) (h9 : f 85 19 = nI p) (h20 : f 85 20 = nI 0) (h21 : f 85 21 = nI k) : ∃ (f' : zF) (a' : zA), cf sc (d + 4) 143 [.ref 85] f a j = some (none, f', a', j) ∧ ClR tx tn k p f f' a a' := by
  have h100 := hV.1
  have hm : nmF (tx p) = 3 := by rw [hx]; rfl
  have hH := m_here (sc := sc) (d := d + 2) (f := f) (a := a) (j := j) hT hV h9 (by omega)
  unfold hrF at hH
  rw [if_pos hp, hx] at hH
  have c12 : ¬ nI k = nI 12 := nI_ne (by omega) (by omega) (by omega)
  have ix99' : zIx 21 99 (nI k) := ix99 hk
  have ix100' : zIx 21 100 (nI k) := ix100 hk
  have ix101' : zIx 21 101 (nI k) := ix101 hk
  have ix102' : zIx 21 102 (nI k) := ix102 hk
  have lq : ∀ x y, x < 200 → y < 200 → x ≠ y → ¬ nI x = nI y := fun x y h1 h2 h => nI_ne (by omega) (by omega) h
  rw [en143]
  unfold ClR MCL
  by_cases d1 : dgA tx tn (p + 1) = true
  · by_cases d2 : dgA tx tn (p + 2) = true
    · by_cases d3 : dgA tx tn (p + 3) = true
      · have ck : ckB tx tn p = true := ck_yes hp hm (by omega) (by rw [fdN3, if_pos d1, if_pos d2, if_pos d3])
        by_cases d4 : dgA tx tn (p + 4) = true
        · have lx : lxB tx tn p = true := lx_yes (by omega) hm d4
          have c0 := m_dOk (sc := sc) (d := d + 1) (f := (zuF f 85 19 (nI (p + 1)))) (a := (zuA a 99 (nI k) (nI 99))) (j := j) (p := p + 1) (hT.up (by simp [zuF]) (by simp [zuA_nk])) hV (by simp [zuF, h20]) (by simp [zuF]) d1
          have c1 := m_dOk (sc := sc) (d := d + 1) (f := (zuF (zuF f 85 19 (nI (p + 1))) 85 19 (nI (p + 2)))) (a := (zuA (zuA a 99 (nI k) (nI 99)) 100 (nI k) (nI (tx (p + 1) - 48)))) (j := j) (p := p + 2) (hT.up (by simp [zuF]) (by simp [zuA_nk])) hV (by simp [zuF, h20]) (by simp [zuF]) d2
          have c2 := m_nOk2 (sc := sc) (d := d) (f := (zuF (zuF (zuF f 85 19 (nI (p + 1))) 85 19 (nI (p + 2))) 85 19 (nI (p + 3)))) (a := (zuA (zuA (zuA a 99 (nI k) (nI 99)) 100 (nI k) (nI (tx (p + 1) - 48))) 101 (nI k) (nI (tx (p + 2) - 48)))) (j := j) (p := p + 3) (hT.up (by simp [zuF]) (by simp [zuA_nk])) hV (by simp [zuF, h20]) (by simp [zuF]) d3 d4
          have g0 : (zuF f 85 19 (nI (p + 1))) 85 21 = nI k := by simp [zuF, h21]
          have g1 : (zuF (zuF f 85 19 (nI (p + 1))) 85 19 (nI (p + 2))) 85 21 = nI k := by simp [zuF, h21]
          have g2 : (zuF (zuF (zuF f 85 19 (nI (p + 1))) 85 19 (nI (p + 2))) 85 19 (nI (p + 3))) 85 21 = nI k := by simp [zuF, h21]
          have g3 : (zuF (zuF (zuF (zuF f 85 19 (nI (p + 1))) 85 19 (nI (p + 2))) 85 19 (nI (p + 3))) 85 19 (nI (p + 4))) 85 21 = nI k := by simp [zuF, h21]
          have g4 : (zuF (zuF (zuF (zuF (zuF f 85 19 (nI (p + 1))) 85 19 (nI (p + 2))) 85 19 (nI (p + 3))) 85 19 (nI (p + 4))) 85 19 (nI (p + 5))) 85 21 = nI k := by simp [zuF, h21]
          refine ⟨(zuF (zuF (zuF (zuF (zuF (zuF f 85 19 (nI (p + 1))) 85 19 (nI (p + 2))) 85 19 (nI (p + 3))) 85 19 (nI (p + 4))) 85 19 (nI (p + 5))) 85 21 (nI (k + 1))), (zuA (zuA (zuA (zuA a 99 (nI k) (nI 99)) 100 (nI k) (nI (tx (p + 1) - 48))) 101 (nI k) (nI (tx (p + 2) - 48))) 102 (nI k) (nI (10 * (tx (p + 3) - 48) + (tx (p + 4) - 48)))), ?_, ?_, ?_, (((((((((MFK.rf.F (i := 19) (x := nI (p + 1)) (by omega)).A (c := 99) (x := nI 99) hk (by omega)).F (i := 19) (x := nI (p + 2)) (by omega)).A (c := 100) (x := nI (tx (p + 1) - 48)) hk (by omega)).F (i := 19) (x := nI (p + 3)) (by omega)).A (c := 101) (x := nI (tx (p + 2) - 48)) hk (by omega)).F (i := 19) (x := nI (p + 4)) (by omega)).F (i := 19) (x := nI (p + 5)) (by omega)).A (c := 102) (x := nI (10 * (tx (p + 3) - 48) + (tx (p + 4) - 48))) hk (by omega)).F (i := 21) (x := nI (k + 1)) (by omega)⟩
          · simp only [q143_0, q143_1, q143_4, q143_5, q143_6, q143_9, q143_11, q143_14, q143_15, q143_17, q143_20, q143_21, q143_23, q143_26, q143_27, q143_29, q143_32, q143_33, q143_35, q143_38, q143_39, q143_41, q143_44, q143_45, q143_47, q143_50, q143_51, q143_52, q143_55, q143_56, q143_57, q143_58, q143_61, q143_62, q143_63, q143_66, q143_67, q143_70, q143_71, q143_74, q143_75, q143_76, q143_77, q143_80, q143_81, q143_84, q143_85, q143_87, q143_90, q143_91, q143_94, q143_97, q143_98, q143_101, q143_102, q143_103, q143_106, q143_107, q143_110, q143_111, q143_113, q143_116, q143_117, q143_119, q143_122, q143_123, q143_126, q143_129, q143_130, q143_131, q143_132, q143_135, q143_136, q143_139, q143_140, q143_142, q143_145, q143_146, q143_149, q143_152, q143_153, q143_154, q143_155, q143_156, q143_159, q143_160, q143_161, q143_164, hH, h9, c12, ix99', ix100', ix101', ix102', lq 99 102 (by omega) (by omega) (by omega), lq 99 104 (by omega) (by omega) (by omega), lq 99 117 (by omega) (by omega) (by omega), lq 99 97 (by omega) (by omega) (by omega), lq 99 112 (by omega) (by omega) (by omega), c0, c1, c2, h21, g0, g1, g2, g3, g4, zCall_some, Option.toList, List.cons_append, List.nil_append, zb_0, zb_1, zem, z01, z11, nI_add, ↓reduceIte, not_true_eq_false, not_false_eq_true, n0T, n1F, n11T, true_or, or_true, false_or]
          · intro _
            refine ⟨by simp [zuF, h20], ?_, by simp [zuF], ?_, ?_, ?_, ?_⟩
            · rw [zuF_ni (by omega), show clE tx tn p = p + 5 from by unfold clE; rw [hm, if_pos lx]]; exact zuF_eq
            · rw [hx]; simp [zuA]
            · rw [vl_one (fun z => by have := z.1; omega)]; simp [zuA]
            · intro _; rw [vl_one (fun z => by have := z.1; omega)]; simp [zuA]
            · intro _; rw [vl_two (by rw [hm]) lx]; simp [zuA]
          · exact fun z => absurd ck z
        · have lx : ¬ lxB tx tn p = true := lx_no hm d4
          have c0 := m_dOk (sc := sc) (d := d + 1) (f := (zuF f 85 19 (nI (p + 1)))) (a := (zuA a 99 (nI k) (nI 99))) (j := j) (p := p + 1) (hT.up (by simp [zuF]) (by simp [zuA_nk])) hV (by simp [zuF, h20]) (by simp [zuF]) d1
          have c1 := m_dOk (sc := sc) (d := d + 1) (f := (zuF (zuF f 85 19 (nI (p + 1))) 85 19 (nI (p + 2)))) (a := (zuA (zuA a 99 (nI k) (nI 99)) 100 (nI k) (nI (tx (p + 1) - 48)))) (j := j) (p := p + 2) (hT.up (by simp [zuF]) (by simp [zuA_nk])) hV (by simp [zuF, h20]) (by simp [zuF]) d2
          have c2 := m_nOk1 (sc := sc) (d := d) (f := (zuF (zuF (zuF f 85 19 (nI (p + 1))) 85 19 (nI (p + 2))) 85 19 (nI (p + 3)))) (a := (zuA (zuA (zuA a 99 (nI k) (nI 99)) 100 (nI k) (nI (tx (p + 1) - 48))) 101 (nI k) (nI (tx (p + 2) - 48)))) (j := j) (p := p + 3) (hT.up (by simp [zuF]) (by simp [zuA_nk])) hV (by simp [zuF, h20]) (by simp [zuF]) d3 d4
          have g0 : (zuF f 85 19 (nI (p + 1))) 85 21 = nI k := by simp [zuF, h21]
          have g1 : (zuF (zuF f 85 19 (nI (p + 1))) 85 19 (nI (p + 2))) 85 21 = nI k := by simp [zuF, h21]
          have g2 : (zuF (zuF (zuF f 85 19 (nI (p + 1))) 85 19 (nI (p + 2))) 85 19 (nI (p + 3))) 85 21 = nI k := by simp [zuF, h21]
          have g3 : (zuF (zuF (zuF (zuF f 85 19 (nI (p + 1))) 85 19 (nI (p + 2))) 85 19 (nI (p + 3))) 85 19 (nI (p + 4))) 85 21 = nI k := by simp [zuF, h21]
          refine ⟨(zuF (zuF (zuF (zuF (zuF f 85 19 (nI (p + 1))) 85 19 (nI (p + 2))) 85 19 (nI (p + 3))) 85 19 (nI (p + 4))) 85 21 (nI (k + 1))), (zuA (zuA (zuA (zuA a 99 (nI k) (nI 99)) 100 (nI k) (nI (tx (p + 1) - 48))) 101 (nI k) (nI (tx (p + 2) - 48))) 102 (nI k) (nI (tx (p + 3) - 48))), ?_, ?_, ?_, ((((((((MFK.rf.F (i := 19) (x := nI (p + 1)) (by omega)).A (c := 99) (x := nI 99) hk (by omega)).F (i := 19) (x := nI (p + 2)) (by omega)).A (c := 100) (x := nI (tx (p + 1) - 48)) hk (by omega)).F (i := 19) (x := nI (p + 3)) (by omega)).A (c := 101) (x := nI (tx (p + 2) - 48)) hk (by omega)).F (i := 19) (x := nI (p + 4)) (by omega)).A (c := 102) (x := nI (tx (p + 3) - 48)) hk (by omega)).F (i := 21) (x := nI (k + 1)) (by omega)⟩
          · simp only [q143_0, q143_1, q143_4, q143_5, q143_6, q143_9, q143_11, q143_14, q143_15, q143_17, q143_20, q143_21, q143_23, q143_26, q143_27, q143_29, q143_32, q143_33, q143_35, q143_38, q143_39, q143_41, q143_44, q143_45, q143_47, q143_50, q143_51, q143_52, q143_55, q143_56, q143_57, q143_58, q143_61, q143_62, q143_63, q143_66, q143_67, q143_70, q143_71, q143_74, q143_75, q143_76, q143_77, q143_80, q143_81, q143_84, q143_85, q143_87, q143_90, q143_91, q143_94, q143_97, q143_98, q143_101, q143_102, q143_103, q143_106, q143_107, q143_110, q143_111, q143_113, q143_116, q143_117, q143_119, q143_122, q143_123, q143_126, q143_129, q143_130, q143_131, q143_132, q143_135, q143_136, q143_139, q143_140, q143_142, q143_145, q143_146, q143_149, q143_152, q143_153, q143_154, q143_155, q143_156, q143_159, q143_160, q143_161, q143_164, hH, h9, c12, ix99', ix100', ix101', ix102', lq 99 102 (by omega) (by omega) (by omega), lq 99 104 (by omega) (by omega) (by omega), lq 99 117 (by omega) (by omega) (by omega), lq 99 97 (by omega) (by omega) (by omega), lq 99 112 (by omega) (by omega) (by omega), c0, c1, c2, h21, g0, g1, g2, g3, zCall_some, Option.toList, List.cons_append, List.nil_append, zb_0, zb_1, zem, z01, z11, nI_add, ↓reduceIte, not_true_eq_false, not_false_eq_true, n0T, n1F, n11T, true_or, or_true, false_or]
          · intro _
            refine ⟨by simp [zuF, h20], ?_, by simp [zuF], ?_, ?_, ?_, ?_⟩
            · rw [zuF_ni (by omega), show clE tx tn p = p + 4 from by unfold clE; rw [hm, if_neg lx]]; exact zuF_eq
            · rw [hx]; simp [zuA]
            · rw [vl_one (fun z => by have := z.1; omega)]; simp [zuA]
            · intro _; rw [vl_one (fun z => by have := z.1; omega)]; simp [zuA]
            · intro _; rw [vl_one (fun z => lx z.2)]; simp [zuA]
          · exact fun z => absurd ck z
      · have ck := ck_no (q := 2) hp hm (by omega) (by rw [fdN3, if_pos d1, if_pos d2, if_neg d3]) (by omega)
        have c0 := m_dOk (sc := sc) (d := d + 1) (f := (zuF f 85 19 (nI (p + 1)))) (a := (zuA a 99 (nI k) (nI 99))) (j := j) (p := p + 1) (hT.up (by simp [zuF]) (by simp [zuA_nk])) hV (by simp [zuF, h20]) (by simp [zuF]) d1
        have c1 := m_dOk (sc := sc) (d := d + 1) (f := (zuF (zuF f 85 19 (nI (p + 1))) 85 19 (nI (p + 2)))) (a := (zuA (zuA a 99 (nI k) (nI 99)) 100 (nI k) (nI (tx (p + 1) - 48)))) (j := j) (p := p + 2) (hT.up (by simp [zuF]) (by simp [zuA_nk])) hV (by simp [zuF, h20]) (by simp [zuF]) d2
        have c2 := m_nNo (sc := sc) (d := d) (f := (zuF (zuF (zuF f 85 19 (nI (p + 1))) 85 19 (nI (p + 2))) 85 19 (nI (p + 3)))) (a := (zuA (zuA (zuA a 99 (nI k) (nI 99)) 100 (nI k) (nI (tx (p + 1) - 48))) 101 (nI k) (nI (tx (p + 2) - 48)))) (j := j) (p := p + 3) (hT.up (by simp [zuF]) (by simp [zuA_nk])) hV (by simp [zuF]) (by omega) (Or.inr ⟨by simp [zuF, h20], d3⟩)
        have g0 : (zuF f 85 19 (nI (p + 1))) 85 21 = nI k := by simp [zuF, h21]
        have g1 : (zuF (zuF f 85 19 (nI (p + 1))) 85 19 (nI (p + 2))) 85 21 = nI k := by simp [zuF, h21]
        have g2 : (zuF (zuF (zuF f 85 19 (nI (p + 1))) 85 19 (nI (p + 2))) 85 19 (nI (p + 3))) 85 21 = nI k := by simp [zuF, h21]
        have g3 : (zuF (zuF (zuF (zuF f 85 19 (nI (p + 1))) 85 19 (nI (p + 2))) 85 19 (nI (p + 3))) 85 20 (nI 1)) 85 21 = nI k := by simp [zuF, h21]
        refine ⟨(zuF (zuF (zuF (zuF (zuF f 85 19 (nI (p + 1))) 85 19 (nI (p + 2))) 85 19 (nI (p + 3))) 85 20 (nI 1)) 85 21 (nI (k + 1))), (zuA (zuA (zuA (zuA a 99 (nI k) (nI 99)) 100 (nI k) (nI (tx (p + 1) - 48))) 101 (nI k) (nI (tx (p + 2) - 48))) 102 (nI k) (nI 0)), ?_, ?_, ?_, ((((((((MFK.rf.F (i := 19) (x := nI (p + 1)) (by omega)).A (c := 99) (x := nI 99) hk (by omega)).F (i := 19) (x := nI (p + 2)) (by omega)).A (c := 100) (x := nI (tx (p + 1) - 48)) hk (by omega)).F (i := 19) (x := nI (p + 3)) (by omega)).A (c := 101) (x := nI (tx (p + 2) - 48)) hk (by omega)).F (i := 20) (x := nI 1) (by omega)).A (c := 102) (x := nI 0) hk (by omega)).F (i := 21) (x := nI (k + 1)) (by omega)⟩
        · simp only [q143_0, q143_1, q143_4, q143_5, q143_6, q143_9, q143_11, q143_14, q143_15, q143_17, q143_20, q143_21, q143_23, q143_26, q143_27, q143_29, q143_32, q143_33, q143_35, q143_38, q143_39, q143_41, q143_44, q143_45, q143_47, q143_50, q143_51, q143_52, q143_55, q143_56, q143_57, q143_58, q143_61, q143_62, q143_63, q143_66, q143_67, q143_70, q143_71, q143_74, q143_75, q143_76, q143_77, q143_80, q143_81, q143_84, q143_85, q143_87, q143_90, q143_91, q143_94, q143_97, q143_98, q143_101, q143_102, q143_103, q143_106, q143_107, q143_110, q143_111, q143_113, q143_116, q143_117, q143_119, q143_122, q143_123, q143_126, q143_129, q143_130, q143_131, q143_132, q143_135, q143_136, q143_139, q143_140, q143_142, q143_145, q143_146, q143_149, q143_152, q143_153, q143_154, q143_155, q143_156, q143_159, q143_160, q143_161, q143_164, hH, h9, c12, ix99', ix100', ix101', ix102', lq 99 102 (by omega) (by omega) (by omega), lq 99 104 (by omega) (by omega) (by omega), lq 99 117 (by omega) (by omega) (by omega), lq 99 97 (by omega) (by omega) (by omega), lq 99 112 (by omega) (by omega) (by omega), c0, c1, c2, h21, g0, g1, g2, g3, zCall_some, Option.toList, List.cons_append, List.nil_append, zb_0, zb_1, zem, z01, z11, nI_add, ↓reduceIte, not_true_eq_false, not_false_eq_true, n0T, n1F, n11T, true_or, or_true, false_or]
        · exact fun z => absurd z ck.1
        · intro _
          rw [ck.2]
          exact ⟨by simp [zuF], by simp [zuF]⟩
    · have ck := ck_no (q := 1) hp hm (by omega) (by rw [fdN3, if_pos d1, if_neg d2]) (by omega)
      have c0 := m_dOk (sc := sc) (d := d + 1) (f := (zuF f 85 19 (nI (p + 1)))) (a := (zuA a 99 (nI k) (nI 99))) (j := j) (p := p + 1) (hT.up (by simp [zuF]) (by simp [zuA_nk])) hV (by simp [zuF, h20]) (by simp [zuF]) d1
      have c1 := m_dNo (sc := sc) (d := d + 1) (f := (zuF (zuF f 85 19 (nI (p + 1))) 85 19 (nI (p + 2)))) (a := (zuA (zuA a 99 (nI k) (nI 99)) 100 (nI k) (nI (tx (p + 1) - 48)))) (j := j) (p := p + 2) (hT.up (by simp [zuF]) (by simp [zuA_nk])) hV (by simp [zuF]) (by omega) (Or.inr ⟨by simp [zuF, h20], d2⟩)
      have c2 := m_nNo (sc := sc) (d := d) (f := (zuF (zuF (zuF f 85 19 (nI (p + 1))) 85 19 (nI (p + 2))) 85 20 (nI 1))) (a := (zuA (zuA (zuA a 99 (nI k) (nI 99)) 100 (nI k) (nI (tx (p + 1) - 48))) 101 (nI k) (nI 0))) (j := j) (p := p + 2) (hT.up (by simp [zuF]) (by simp [zuA_nk])) hV (by simp [zuF]) (by omega) (Or.inl (by simp [zuF]))
      have g0 : (zuF f 85 19 (nI (p + 1))) 85 21 = nI k := by simp [zuF, h21]
      have g1 : (zuF (zuF f 85 19 (nI (p + 1))) 85 19 (nI (p + 2))) 85 21 = nI k := by simp [zuF, h21]
      have g2 : (zuF (zuF (zuF f 85 19 (nI (p + 1))) 85 19 (nI (p + 2))) 85 20 (nI 1)) 85 21 = nI k := by simp [zuF, h21]
      have g3 : (zuF (zuF (zuF (zuF f 85 19 (nI (p + 1))) 85 19 (nI (p + 2))) 85 20 (nI 1)) 85 20 (nI 1)) 85 21 = nI k := by simp [zuF, h21]
      refine ⟨(zuF (zuF (zuF (zuF (zuF f 85 19 (nI (p + 1))) 85 19 (nI (p + 2))) 85 20 (nI 1)) 85 20 (nI 1)) 85 21 (nI (k + 1))), (zuA (zuA (zuA (zuA a 99 (nI k) (nI 99)) 100 (nI k) (nI (tx (p + 1) - 48))) 101 (nI k) (nI 0)) 102 (nI k) (nI 0)), ?_, ?_, ?_, ((((((((MFK.rf.F (i := 19) (x := nI (p + 1)) (by omega)).A (c := 99) (x := nI 99) hk (by omega)).F (i := 19) (x := nI (p + 2)) (by omega)).A (c := 100) (x := nI (tx (p + 1) - 48)) hk (by omega)).F (i := 20) (x := nI 1) (by omega)).A (c := 101) (x := nI 0) hk (by omega)).F (i := 20) (x := nI 1) (by omega)).A (c := 102) (x := nI 0) hk (by omega)).F (i := 21) (x := nI (k + 1)) (by omega)⟩
      · simp only [q143_0, q143_1, q143_4, q143_5, q143_6, q143_9, q143_11, q143_14, q143_15, q143_17, q143_20, q143_21, q143_23, q143_26, q143_27, q143_29, q143_32, q143_33, q143_35, q143_38, q143_39, q143_41, q143_44, q143_45, q143_47, q143_50, q143_51, q143_52, q143_55, q143_56, q143_57, q143_58, q143_61, q143_62, q143_63, q143_66, q143_67, q143_70, q143_71, q143_74, q143_75, q143_76, q143_77, q143_80, q143_81, q143_84, q143_85, q143_87, q143_90, q143_91, q143_94, q143_97, q143_98, q143_101, q143_102, q143_103, q143_106, q143_107, q143_110, q143_111, q143_113, q143_116, q143_117, q143_119, q143_122, q143_123, q143_126, q143_129, q143_130, q143_131, q143_132, q143_135, q143_136, q143_139, q143_140, q143_142, q143_145, q143_146, q143_149, q143_152, q143_153, q143_154, q143_155, q143_156, q143_159, q143_160, q143_161, q143_164, hH, h9, c12, ix99', ix100', ix101', ix102', lq 99 102 (by omega) (by omega) (by omega), lq 99 104 (by omega) (by omega) (by omega), lq 99 117 (by omega) (by omega) (by omega), lq 99 97 (by omega) (by omega) (by omega), lq 99 112 (by omega) (by omega) (by omega), c0, c1, c2, h21, g0, g1, g2, g3, zCall_some, Option.toList, List.cons_append, List.nil_append, zb_0, zb_1, zem, z01, z11, nI_add, ↓reduceIte, not_true_eq_false, not_false_eq_true, n0T, n1F, n11T, true_or, or_true, false_or]
      · exact fun z => absurd z ck.1
      · intro _
        rw [ck.2]
        exact ⟨by simp [zuF], by simp [zuF]⟩
  · have ck := ck_no (q := 0) hp hm (by omega) (by rw [fdN3, if_neg d1]) (by omega)
    have c0 := m_dNo (sc := sc) (d := d + 1) (f := (zuF f 85 19 (nI (p + 1)))) (a := (zuA a 99 (nI k) (nI 99))) (j := j) (p := p + 1) (hT.up (by simp [zuF]) (by simp [zuA_nk])) hV (by simp [zuF]) (by omega) (Or.inr ⟨by simp [zuF, h20], d1⟩)
    have c1 := m_dNo (sc := sc) (d := d + 1) (f := (zuF (zuF f 85 19 (nI (p + 1))) 85 20 (nI 1))) (a := (zuA (zuA a 99 (nI k) (nI 99)) 100 (nI k) (nI 0))) (j := j) (p := p + 1) (hT.up (by simp [zuF]) (by simp [zuA_nk])) hV (by simp [zuF]) (by omega) (Or.inl (by simp [zuF]))
    have c2 := m_nNo (sc := sc) (d := d) (f := (zuF (zuF (zuF f 85 19 (nI (p + 1))) 85 20 (nI 1)) 85 20 (nI 1))) (a := (zuA (zuA (zuA a 99 (nI k) (nI 99)) 100 (nI k) (nI 0)) 101 (nI k) (nI 0))) (j := j) (p := p + 1) (hT.up (by simp [zuF]) (by simp [zuA_nk])) hV (by simp [zuF]) (by omega) (Or.inl (by simp [zuF]))
    have g0 : (zuF f 85 19 (nI (p + 1))) 85 21 = nI k := by simp [zuF, h21]
    have g1 : (zuF (zuF f 85 19 (nI (p + 1))) 85 20 (nI 1)) 85 21 = nI k := by simp [zuF, h21]
    have g2 : (zuF (zuF (zuF f 85 19 (nI (p + 1))) 85 20 (nI 1)) 85 20 (nI 1)) 85 21 = nI k := by simp [zuF, h21]
    have g3 : (zuF (zuF (zuF (zuF f 85 19 (nI (p + 1))) 85 20 (nI 1)) 85 20 (nI 1)) 85 20 (nI 1)) 85 21 = nI k := by simp [zuF, h21]
    refine ⟨(zuF (zuF (zuF (zuF (zuF f 85 19 (nI (p + 1))) 85 20 (nI 1)) 85 20 (nI 1)) 85 20 (nI 1)) 85 21 (nI (k + 1))), (zuA (zuA (zuA (zuA a 99 (nI k) (nI 99)) 100 (nI k) (nI 0)) 101 (nI k) (nI 0)) 102 (nI k) (nI 0)), ?_, ?_, ?_, ((((((((MFK.rf.F (i := 19) (x := nI (p + 1)) (by omega)).A (c := 99) (x := nI 99) hk (by omega)).F (i := 20) (x := nI 1) (by omega)).A (c := 100) (x := nI 0) hk (by omega)).F (i := 20) (x := nI 1) (by omega)).A (c := 101) (x := nI 0) hk (by omega)).F (i := 20) (x := nI 1) (by omega)).A (c := 102) (x := nI 0) hk (by omega)).F (i := 21) (x := nI (k + 1)) (by omega)⟩
    · simp only [q143_0, q143_1, q143_4, q143_5, q143_6, q143_9, q143_11, q143_14, q143_15, q143_17, q143_20, q143_21, q143_23, q143_26, q143_27, q143_29, q143_32, q143_33, q143_35, q143_38, q143_39, q143_41, q143_44, q143_45, q143_47, q143_50, q143_51, q143_52, q143_55, q143_56, q143_57, q143_58, q143_61, q143_62, q143_63, q143_66, q143_67, q143_70, q143_71, q143_74, q143_75, q143_76, q143_77, q143_80, q143_81, q143_84, q143_85, q143_87, q143_90, q143_91, q143_94, q143_97, q143_98, q143_101, q143_102, q143_103, q143_106, q143_107, q143_110, q143_111, q143_113, q143_116, q143_117, q143_119, q143_122, q143_123, q143_126, q143_129, q143_130, q143_131, q143_132, q143_135, q143_136, q143_139, q143_140, q143_142, q143_145, q143_146, q143_149, q143_152, q143_153, q143_154, q143_155, q143_156, q143_159, q143_160, q143_161, q143_164, hH, h9, c12, ix99', ix100', ix101', ix102', lq 99 102 (by omega) (by omega) (by omega), lq 99 104 (by omega) (by omega) (by omega), lq 99 117 (by omega) (by omega) (by omega), lq 99 97 (by omega) (by omega) (by omega), lq 99 112 (by omega) (by omega) (by omega), c0, c1, c2, h21, g0, g1, g2, g3, zCall_some, Option.toList, List.cons_append, List.nil_append, zb_0, zb_1, zem, z01, z11, nI_add, ↓reduceIte, not_true_eq_false, not_false_eq_true, n0T, n1F, n11T, true_or, or_true, false_or]
    · exact fun z => absurd z ck.1
    · intro _
      rw [ck.2]
      exact ⟨by simp [zuF], by simp [zuF]⟩
theorem cl_h {sc : Int32 × (Int32 → Int32)} {f : zF} {a : zA} {j : zJ} {d tn p k : Nat} {tx : Nat → Nat} (hT : MX tx tn f a) (hV : VX tx tn) (hp : p < tn) (hx : tx p = 104) (hk : k < 12) (h9 : f 85 19 = nI p) (h20 : f 85 20 = nI 0) (h21 : f 85 21 = nI k) : ∃ (f' : zF) (a' : zA), cf sc (d + 4) 143 [.ref 85] f a j = some (none, f', a', j) ∧ ClR tx tn k p f f' a a' := by
  have h100 := hV.1
  have hm : nmF (tx p) = 1 := by rw [hx]; rfl
  have hH := m_here (sc := sc) (d := d + 2) (f := f) (a := a) (j := j) hT hV h9 (by omega)
  unfold hrF at hH
  rw [if_pos hp, hx] at hH
  have c12 : ¬ nI k = nI 12 := nI_ne (by omega) (by omega) (by omega)
  have ix99' : zIx 21 99 (nI k) := ix99 hk
  have ix100' : zIx 21 100 (nI k) := ix100 hk
  have ix101' : zIx 21 101 (nI k) := ix101 hk
  have ix102' : zIx 21 102 (nI k) := ix102 hk
  have lq : ∀ x y, x < 200 → y < 200 → x ≠ y → ¬ nI x = nI y := fun x y h1 h2 h => nI_ne (by omega) (by omega) h
  rw [en143]
  unfold ClR MCL
  by_cases d1 : dgA tx tn (p + 1) = true
  · have ck : ckB tx tn p = true := ck_yes hp hm (by omega) (by rw [fdN1, if_pos d1])
    by_cases d2 : dgA tx tn (p + 2) = true
    · have lx : lxB tx tn p = true := lx_yes (by omega) hm d2
      have c0 := m_nOk2 (sc := sc) (d := d) (f := (zuF f 85 19 (nI (p + 1)))) (a := (zuA a 99 (nI k) (nI 104))) (j := j) (p := p + 1) (hT.up (by simp [zuF]) (by simp [zuA_nk])) hV (by simp [zuF, h20]) (by simp [zuF]) d1 d2
      have g0 : (zuF f 85 19 (nI (p + 1))) 85 21 = nI k := by simp [zuF, h21]
      have g1 : (zuF (zuF f 85 19 (nI (p + 1))) 85 19 (nI (p + 2))) 85 21 = nI k := by simp [zuF, h21]
      have g2 : (zuF (zuF (zuF f 85 19 (nI (p + 1))) 85 19 (nI (p + 2))) 85 19 (nI (p + 3))) 85 21 = nI k := by simp [zuF, h21]
      refine ⟨(zuF (zuF (zuF (zuF f 85 19 (nI (p + 1))) 85 19 (nI (p + 2))) 85 19 (nI (p + 3))) 85 21 (nI (k + 1))), (zuA (zuA (zuA (zuA a 99 (nI k) (nI 104)) 100 (nI k) (nI (10 * (tx (p + 1) - 48) + (tx (p + 2) - 48)))) 101 (nI k) (nI 0)) 102 (nI k) (nI 0)), ?_, ?_, ?_, (((((((MFK.rf.F (i := 19) (x := nI (p + 1)) (by omega)).A (c := 99) (x := nI 104) hk (by omega)).F (i := 19) (x := nI (p + 2)) (by omega)).F (i := 19) (x := nI (p + 3)) (by omega)).A (c := 100) (x := nI (10 * (tx (p + 1) - 48) + (tx (p + 2) - 48))) hk (by omega)).A (c := 101) (x := nI 0) hk (by omega)).A (c := 102) (x := nI 0) hk (by omega)).F (i := 21) (x := nI (k + 1)) (by omega)⟩
      · simp only [q143_0, q143_1, q143_4, q143_5, q143_6, q143_9, q143_11, q143_14, q143_15, q143_17, q143_20, q143_21, q143_23, q143_26, q143_27, q143_29, q143_32, q143_33, q143_35, q143_38, q143_39, q143_41, q143_44, q143_45, q143_47, q143_50, q143_51, q143_52, q143_55, q143_56, q143_57, q143_58, q143_61, q143_62, q143_63, q143_66, q143_67, q143_70, q143_71, q143_74, q143_75, q143_76, q143_77, q143_80, q143_81, q143_84, q143_85, q143_87, q143_90, q143_91, q143_94, q143_97, q143_98, q143_101, q143_102, q143_103, q143_106, q143_107, q143_110, q143_111, q143_113, q143_116, q143_117, q143_119, q143_122, q143_123, q143_126, q143_129, q143_130, q143_131, q143_132, q143_135, q143_136, q143_139, q143_140, q143_142, q143_145, q143_146, q143_149, q143_152, q143_153, q143_154, q143_155, q143_156, q143_159, q143_160, q143_161, q143_164, hH, h9, c12, ix99', ix100', ix101', ix102', lq 104 102 (by omega) (by omega) (by omega), lq 104 99 (by omega) (by omega) (by omega), lq 104 117 (by omega) (by omega) (by omega), lq 104 97 (by omega) (by omega) (by omega), lq 104 112 (by omega) (by omega) (by omega), c0, h21, g0, g1, g2, zCall_some, Option.toList, List.cons_append, List.nil_append, zb_0, zb_1, zem, z01, z11, nI_add, ↓reduceIte, not_true_eq_false, not_false_eq_true, n0T, n1F, n11T, true_or, or_true, false_or]
      · intro _
        refine ⟨by simp [zuF, h20], ?_, by simp [zuF], ?_, ?_, ?_, ?_⟩
        · rw [zuF_ni (by omega), show clE tx tn p = p + 3 from by unfold clE; rw [hm, if_pos lx]]; exact zuF_eq
        · rw [hx]; simp [zuA]
        · rw [vl_two (by rw [hm]) lx]; simp [zuA]
        · intro z; rw [hm] at z; omega
        · intro z; rw [hm] at z; omega
      · exact fun z => absurd ck z
    · have lx : ¬ lxB tx tn p = true := lx_no hm d2
      have c0 := m_nOk1 (sc := sc) (d := d) (f := (zuF f 85 19 (nI (p + 1)))) (a := (zuA a 99 (nI k) (nI 104))) (j := j) (p := p + 1) (hT.up (by simp [zuF]) (by simp [zuA_nk])) hV (by simp [zuF, h20]) (by simp [zuF]) d1 d2
      have g0 : (zuF f 85 19 (nI (p + 1))) 85 21 = nI k := by simp [zuF, h21]
      have g1 : (zuF (zuF f 85 19 (nI (p + 1))) 85 19 (nI (p + 2))) 85 21 = nI k := by simp [zuF, h21]
      refine ⟨(zuF (zuF (zuF f 85 19 (nI (p + 1))) 85 19 (nI (p + 2))) 85 21 (nI (k + 1))), (zuA (zuA (zuA (zuA a 99 (nI k) (nI 104)) 100 (nI k) (nI (tx (p + 1) - 48))) 101 (nI k) (nI 0)) 102 (nI k) (nI 0)), ?_, ?_, ?_, ((((((MFK.rf.F (i := 19) (x := nI (p + 1)) (by omega)).A (c := 99) (x := nI 104) hk (by omega)).F (i := 19) (x := nI (p + 2)) (by omega)).A (c := 100) (x := nI (tx (p + 1) - 48)) hk (by omega)).A (c := 101) (x := nI 0) hk (by omega)).A (c := 102) (x := nI 0) hk (by omega)).F (i := 21) (x := nI (k + 1)) (by omega)⟩
      · simp only [q143_0, q143_1, q143_4, q143_5, q143_6, q143_9, q143_11, q143_14, q143_15, q143_17, q143_20, q143_21, q143_23, q143_26, q143_27, q143_29, q143_32, q143_33, q143_35, q143_38, q143_39, q143_41, q143_44, q143_45, q143_47, q143_50, q143_51, q143_52, q143_55, q143_56, q143_57, q143_58, q143_61, q143_62, q143_63, q143_66, q143_67, q143_70, q143_71, q143_74, q143_75, q143_76, q143_77, q143_80, q143_81, q143_84, q143_85, q143_87, q143_90, q143_91, q143_94, q143_97, q143_98, q143_101, q143_102, q143_103, q143_106, q143_107, q143_110, q143_111, q143_113, q143_116, q143_117, q143_119, q143_122, q143_123, q143_126, q143_129, q143_130, q143_131, q143_132, q143_135, q143_136, q143_139, q143_140, q143_142, q143_145, q143_146, q143_149, q143_152, q143_153, q143_154, q143_155, q143_156, q143_159, q143_160, q143_161, q143_164, hH, h9, c12, ix99', ix100', ix101', ix102', lq 104 102 (by omega) (by omega) (by omega), lq 104 99 (by omega) (by omega) (by omega), lq 104 117 (by omega) (by omega) (by omega), lq 104 97 (by omega) (by omega) (by omega), lq 104 112 (by omega) (by omega) (by omega), c0, h21, g0, g1, zCall_some, Option.toList, List.cons_append, List.nil_append, zb_0, zb_1, zem, z01, z11, nI_add, ↓reduceIte, not_true_eq_false, not_false_eq_true, n0T, n1F, n11T, true_or, or_true, false_or]
      · intro _
        refine ⟨by simp [zuF, h20], ?_, by simp [zuF], ?_, ?_, ?_, ?_⟩
        · rw [zuF_ni (by omega), show clE tx tn p = p + 2 from by unfold clE; rw [hm, if_neg lx]]; exact zuF_eq
        · rw [hx]; simp [zuA]
        · rw [vl_one (fun z => lx z.2)]; simp [zuA]
        · intro z; rw [hm] at z; omega
        · intro z; rw [hm] at z; omega
      · exact fun z => absurd ck z
  · have ck := ck_no (q := 0) hp hm (by omega) (by rw [fdN1, if_neg d1]) (by omega)
    have c0 := m_nNo (sc := sc) (d := d) (f := (zuF f 85 19 (nI (p + 1)))) (a := (zuA a 99 (nI k) (nI 104))) (j := j) (p := p + 1) (hT.up (by simp [zuF]) (by simp [zuA_nk])) hV (by simp [zuF]) (by omega) (Or.inr ⟨by simp [zuF, h20], d1⟩)
    have g0 : (zuF f 85 19 (nI (p + 1))) 85 21 = nI k := by simp [zuF, h21]
    have g1 : (zuF (zuF f 85 19 (nI (p + 1))) 85 20 (nI 1)) 85 21 = nI k := by simp [zuF, h21]
    refine ⟨(zuF (zuF (zuF f 85 19 (nI (p + 1))) 85 20 (nI 1)) 85 21 (nI (k + 1))), (zuA (zuA (zuA (zuA a 99 (nI k) (nI 104)) 100 (nI k) (nI 0)) 101 (nI k) (nI 0)) 102 (nI k) (nI 0)), ?_, ?_, ?_, ((((((MFK.rf.F (i := 19) (x := nI (p + 1)) (by omega)).A (c := 99) (x := nI 104) hk (by omega)).F (i := 20) (x := nI 1) (by omega)).A (c := 100) (x := nI 0) hk (by omega)).A (c := 101) (x := nI 0) hk (by omega)).A (c := 102) (x := nI 0) hk (by omega)).F (i := 21) (x := nI (k + 1)) (by omega)⟩
    · simp only [q143_0, q143_1, q143_4, q143_5, q143_6, q143_9, q143_11, q143_14, q143_15, q143_17, q143_20, q143_21, q143_23, q143_26, q143_27, q143_29, q143_32, q143_33, q143_35, q143_38, q143_39, q143_41, q143_44, q143_45, q143_47, q143_50, q143_51, q143_52, q143_55, q143_56, q143_57, q143_58, q143_61, q143_62, q143_63, q143_66, q143_67, q143_70, q143_71, q143_74, q143_75, q143_76, q143_77, q143_80, q143_81, q143_84, q143_85, q143_87, q143_90, q143_91, q143_94, q143_97, q143_98, q143_101, q143_102, q143_103, q143_106, q143_107, q143_110, q143_111, q143_113, q143_116, q143_117, q143_119, q143_122, q143_123, q143_126, q143_129, q143_130, q143_131, q143_132, q143_135, q143_136, q143_139, q143_140, q143_142, q143_145, q143_146, q143_149, q143_152, q143_153, q143_154, q143_155, q143_156, q143_159, q143_160, q143_161, q143_164, hH, h9, c12, ix99', ix100', ix101', ix102', lq 104 102 (by omega) (by omega) (by omega), lq 104 99 (by omega) (by omega) (by omega), lq 104 117 (by omega) (by omega) (by omega), lq 104 97 (by omega) (by omega) (by omega), lq 104 112 (by omega) (by omega) (by omega), c0, h21, g0, g1, zCall_some, Option.toList, List.cons_append, List.nil_append, zb_0, zb_1, zem, z01, z11, nI_add, ↓reduceIte, not_true_eq_false, not_false_eq_true, n0T, n1F, n11T, true_or, or_true, false_or]
    · exact fun z => absurd z ck.1
    · intro _
      rw [ck.2]
      exact ⟨by simp [zuF], by simp [zuF]⟩
theorem cl_u {sc : Int32 × (Int32 → Int32)} {f : zF} {a : zA} {j : zJ} {d tn p k : Nat} {tx : Nat → Nat} (hT : MX tx tn f a) (hV : VX tx tn) (hp : p < tn) (hx : tx p = 117) (hk : k < 12) (h9 : f 85 19 = nI p) (h20 : f 85 20 = nI 0) (h21 : f 85 21 = nI k) : ∃ (f' : zF) (a' : zA), cf sc (d + 4) 143 [.ref 85] f a j = some (none, f', a', j) ∧ ClR tx tn k p f f' a a' := by
  have h100 := hV.1
  have hm : nmF (tx p) = 1 := by rw [hx]; rfl
  have hH := m_here (sc := sc) (d := d + 2) (f := f) (a := a) (j := j) hT hV h9 (by omega)
  unfold hrF at hH
  rw [if_pos hp, hx] at hH
  have c12 : ¬ nI k = nI 12 := nI_ne (by omega) (by omega) (by omega)
  have ix99' : zIx 21 99 (nI k) := ix99 hk
  have ix100' : zIx 21 100 (nI k) := ix100 hk
  have ix101' : zIx 21 101 (nI k) := ix101 hk
  have ix102' : zIx 21 102 (nI k) := ix102 hk
  have lq : ∀ x y, x < 200 → y < 200 → x ≠ y → ¬ nI x = nI y := fun x y h1 h2 h => nI_ne (by omega) (by omega) h
  rw [en143]
  unfold ClR MCL
  have lx : ¬ lxB tx tn p = true := lx_no2 (by omega)
  by_cases d1 : dgA tx tn (p + 1) = true
  · have ck : ckB tx tn p = true := ck_yes hp hm (by omega) (by rw [fdN1, if_pos d1])
    have c0 := m_dOk (sc := sc) (d := d + 1) (f := (zuF f 85 19 (nI (p + 1)))) (a := (zuA a 99 (nI k) (nI 117))) (j := j) (p := p + 1) (hT.up (by simp [zuF]) (by simp [zuA_nk])) hV (by simp [zuF, h20]) (by simp [zuF]) d1
    have g0 : (zuF f 85 19 (nI (p + 1))) 85 21 = nI k := by simp [zuF, h21]
    have g1 : (zuF (zuF f 85 19 (nI (p + 1))) 85 19 (nI (p + 2))) 85 21 = nI k := by simp [zuF, h21]
    refine ⟨(zuF (zuF (zuF f 85 19 (nI (p + 1))) 85 19 (nI (p + 2))) 85 21 (nI (k + 1))), (zuA (zuA (zuA (zuA a 99 (nI k) (nI 117)) 100 (nI k) (nI (tx (p + 1) - 48))) 101 (nI k) (nI 0)) 102 (nI k) (nI 0)), ?_, ?_, ?_, ((((((MFK.rf.F (i := 19) (x := nI (p + 1)) (by omega)).A (c := 99) (x := nI 117) hk (by omega)).F (i := 19) (x := nI (p + 2)) (by omega)).A (c := 100) (x := nI (tx (p + 1) - 48)) hk (by omega)).A (c := 101) (x := nI 0) hk (by omega)).A (c := 102) (x := nI 0) hk (by omega)).F (i := 21) (x := nI (k + 1)) (by omega)⟩
    · simp only [q143_0, q143_1, q143_4, q143_5, q143_6, q143_9, q143_11, q143_14, q143_15, q143_17, q143_20, q143_21, q143_23, q143_26, q143_27, q143_29, q143_32, q143_33, q143_35, q143_38, q143_39, q143_41, q143_44, q143_45, q143_47, q143_50, q143_51, q143_52, q143_55, q143_56, q143_57, q143_58, q143_61, q143_62, q143_63, q143_66, q143_67, q143_70, q143_71, q143_74, q143_75, q143_76, q143_77, q143_80, q143_81, q143_84, q143_85, q143_87, q143_90, q143_91, q143_94, q143_97, q143_98, q143_101, q143_102, q143_103, q143_106, q143_107, q143_110, q143_111, q143_113, q143_116, q143_117, q143_119, q143_122, q143_123, q143_126, q143_129, q143_130, q143_131, q143_132, q143_135, q143_136, q143_139, q143_140, q143_142, q143_145, q143_146, q143_149, q143_152, q143_153, q143_154, q143_155, q143_156, q143_159, q143_160, q143_161, q143_164, hH, h9, c12, ix99', ix100', ix101', ix102', lq 117 102 (by omega) (by omega) (by omega), lq 117 99 (by omega) (by omega) (by omega), lq 117 104 (by omega) (by omega) (by omega), lq 117 97 (by omega) (by omega) (by omega), lq 117 112 (by omega) (by omega) (by omega), c0, h21, g0, g1, zCall_some, Option.toList, List.cons_append, List.nil_append, zb_0, zb_1, zem, z01, z11, nI_add, ↓reduceIte, not_true_eq_false, not_false_eq_true, n0T, n1F, n11T, true_or, or_true, false_or]
    · intro _
      refine ⟨by simp [zuF, h20], ?_, by simp [zuF], ?_, ?_, ?_, ?_⟩
      · rw [zuF_ni (by omega), show clE tx tn p = p + 2 from by unfold clE; rw [hm, if_neg lx]]; exact zuF_eq
      · rw [hx]; simp [zuA]
      · rw [vl_one (fun z => lx z.2)]; simp [zuA]
      · intro z; rw [hm] at z; omega
      · intro z; rw [hm] at z; omega
    · exact fun z => absurd ck z
  · have ck := ck_no (q := 0) hp hm (by omega) (by rw [fdN1, if_neg d1]) (by omega)
    have c0 := m_dNo (sc := sc) (d := d + 1) (f := (zuF f 85 19 (nI (p + 1)))) (a := (zuA a 99 (nI k) (nI 117))) (j := j) (p := p + 1) (hT.up (by simp [zuF]) (by simp [zuA_nk])) hV (by simp [zuF]) (by omega) (Or.inr ⟨by simp [zuF, h20], d1⟩)
    have g0 : (zuF f 85 19 (nI (p + 1))) 85 21 = nI k := by simp [zuF, h21]
    have g1 : (zuF (zuF f 85 19 (nI (p + 1))) 85 20 (nI 1)) 85 21 = nI k := by simp [zuF, h21]
    refine ⟨(zuF (zuF (zuF f 85 19 (nI (p + 1))) 85 20 (nI 1)) 85 21 (nI (k + 1))), (zuA (zuA (zuA (zuA a 99 (nI k) (nI 117)) 100 (nI k) (nI 0)) 101 (nI k) (nI 0)) 102 (nI k) (nI 0)), ?_, ?_, ?_, ((((((MFK.rf.F (i := 19) (x := nI (p + 1)) (by omega)).A (c := 99) (x := nI 117) hk (by omega)).F (i := 20) (x := nI 1) (by omega)).A (c := 100) (x := nI 0) hk (by omega)).A (c := 101) (x := nI 0) hk (by omega)).A (c := 102) (x := nI 0) hk (by omega)).F (i := 21) (x := nI (k + 1)) (by omega)⟩
    · simp only [q143_0, q143_1, q143_4, q143_5, q143_6, q143_9, q143_11, q143_14, q143_15, q143_17, q143_20, q143_21, q143_23, q143_26, q143_27, q143_29, q143_32, q143_33, q143_35, q143_38, q143_39, q143_41, q143_44, q143_45, q143_47, q143_50, q143_51, q143_52, q143_55, q143_56, q143_57, q143_58, q143_61, q143_62, q143_63, q143_66, q143_67, q143_70, q143_71, q143_74, q143_75, q143_76, q143_77, q143_80, q143_81, q143_84, q143_85, q143_87, q143_90, q143_91, q143_94, q143_97, q143_98, q143_101, q143_102, q143_103, q143_106, q143_107, q143_110, q143_111, q143_113, q143_116, q143_117, q143_119, q143_122, q143_123, q143_126, q143_129, q143_130, q143_131, q143_132, q143_135, q143_136, q143_139, q143_140, q143_142, q143_145, q143_146, q143_149, q143_152, q143_153, q143_154, q143_155, q143_156, q143_159, q143_160, q143_161, q143_164, hH, h9, c12, ix99', ix100', ix101', ix102', lq 117 102 (by omega) (by omega) (by omega), lq 117 99 (by omega) (by omega) (by omega), lq 117 104 (by omega) (by omega) (by omega), lq 117 97 (by omega) (by omega) (by omega), lq 117 112 (by omega) (by omega) (by omega), c0, h21, g0, g1, zCall_some, Option.toList, List.cons_append, List.nil_append, zb_0, zb_1, zem, z01, z11, nI_add, ↓reduceIte, not_true_eq_false, not_false_eq_true, n0T, n1F, n11T, true_or, or_true, false_or]
    · exact fun z => absurd z ck.1
    · intro _
      rw [ck.2]
      exact ⟨by simp [zuF], by simp [zuF]⟩
theorem cl_a {sc : Int32 × (Int32 → Int32)} {f : zF} {a : zA} {j : zJ} {d tn p k : Nat} {tx : Nat → Nat} (hT : MX tx tn f a) (hV : VX tx tn) (hp : p < tn) (hx : tx p = 97) (hk : k < 12) (h9 : f 85 19 = nI p) (h20 : f 85 20 = nI 0) (h21 : f 85 21 = nI k) : ∃ (f' : zF) (a' : zA), cf sc (d + 4) 143 [.ref 85] f a j = some (none, f', a', j) ∧ ClR tx tn k p f f' a a' := by
  have h100 := hV.1
  have hm : nmF (tx p) = 1 := by rw [hx]; rfl
  have hH := m_here (sc := sc) (d := d + 2) (f := f) (a := a) (j := j) hT hV h9 (by omega)
  unfold hrF at hH
  rw [if_pos hp, hx] at hH
  have c12 : ¬ nI k = nI 12 := nI_ne (by omega) (by omega) (by omega)
  have ix99' : zIx 21 99 (nI k) := ix99 hk
  have ix100' : zIx 21 100 (nI k) := ix100 hk
  have ix101' : zIx 21 101 (nI k) := ix101 hk
  have ix102' : zIx 21 102 (nI k) := ix102 hk
  have lq : ∀ x y, x < 200 → y < 200 → x ≠ y → ¬ nI x = nI y := fun x y h1 h2 h => nI_ne (by omega) (by omega) h
  rw [en143]
  unfold ClR MCL
  have lx : ¬ lxB tx tn p = true := lx_no2 (by omega)
  by_cases d1 : dgA tx tn (p + 1) = true
  · have ck : ckB tx tn p = true := ck_yes hp hm (by omega) (by rw [fdN1, if_pos d1])
    have c0 := m_dOk (sc := sc) (d := d + 1) (f := (zuF f 85 19 (nI (p + 1)))) (a := (zuA a 99 (nI k) (nI 97))) (j := j) (p := p + 1) (hT.up (by simp [zuF]) (by simp [zuA_nk])) hV (by simp [zuF, h20]) (by simp [zuF]) d1
    have g0 : (zuF f 85 19 (nI (p + 1))) 85 21 = nI k := by simp [zuF, h21]
    have g1 : (zuF (zuF f 85 19 (nI (p + 1))) 85 19 (nI (p + 2))) 85 21 = nI k := by simp [zuF, h21]
    refine ⟨(zuF (zuF (zuF f 85 19 (nI (p + 1))) 85 19 (nI (p + 2))) 85 21 (nI (k + 1))), (zuA (zuA (zuA (zuA a 99 (nI k) (nI 97)) 100 (nI k) (nI (tx (p + 1) - 48))) 101 (nI k) (nI 0)) 102 (nI k) (nI 0)), ?_, ?_, ?_, ((((((MFK.rf.F (i := 19) (x := nI (p + 1)) (by omega)).A (c := 99) (x := nI 97) hk (by omega)).F (i := 19) (x := nI (p + 2)) (by omega)).A (c := 100) (x := nI (tx (p + 1) - 48)) hk (by omega)).A (c := 101) (x := nI 0) hk (by omega)).A (c := 102) (x := nI 0) hk (by omega)).F (i := 21) (x := nI (k + 1)) (by omega)⟩
    · simp only [q143_0, q143_1, q143_4, q143_5, q143_6, q143_9, q143_11, q143_14, q143_15, q143_17, q143_20, q143_21, q143_23, q143_26, q143_27, q143_29, q143_32, q143_33, q143_35, q143_38, q143_39, q143_41, q143_44, q143_45, q143_47, q143_50, q143_51, q143_52, q143_55, q143_56, q143_57, q143_58, q143_61, q143_62, q143_63, q143_66, q143_67, q143_70, q143_71, q143_74, q143_75, q143_76, q143_77, q143_80, q143_81, q143_84, q143_85, q143_87, q143_90, q143_91, q143_94, q143_97, q143_98, q143_101, q143_102, q143_103, q143_106, q143_107, q143_110, q143_111, q143_113, q143_116, q143_117, q143_119, q143_122, q143_123, q143_126, q143_129, q143_130, q143_131, q143_132, q143_135, q143_136, q143_139, q143_140, q143_142, q143_145, q143_146, q143_149, q143_152, q143_153, q143_154, q143_155, q143_156, q143_159, q143_160, q143_161, q143_164, hH, h9, c12, ix99', ix100', ix101', ix102', lq 97 102 (by omega) (by omega) (by omega), lq 97 99 (by omega) (by omega) (by omega), lq 97 104 (by omega) (by omega) (by omega), lq 97 117 (by omega) (by omega) (by omega), lq 97 112 (by omega) (by omega) (by omega), c0, h21, g0, g1, zCall_some, Option.toList, List.cons_append, List.nil_append, zb_0, zb_1, zem, z01, z11, nI_add, ↓reduceIte, not_true_eq_false, not_false_eq_true, n0T, n1F, n11T, true_or, or_true, false_or]
    · intro _
      refine ⟨by simp [zuF, h20], ?_, by simp [zuF], ?_, ?_, ?_, ?_⟩
      · rw [zuF_ni (by omega), show clE tx tn p = p + 2 from by unfold clE; rw [hm, if_neg lx]]; exact zuF_eq
      · rw [hx]; simp [zuA]
      · rw [vl_one (fun z => lx z.2)]; simp [zuA]
      · intro z; rw [hm] at z; omega
      · intro z; rw [hm] at z; omega
    · exact fun z => absurd ck z
  · have ck := ck_no (q := 0) hp hm (by omega) (by rw [fdN1, if_neg d1]) (by omega)
    have c0 := m_dNo (sc := sc) (d := d + 1) (f := (zuF f 85 19 (nI (p + 1)))) (a := (zuA a 99 (nI k) (nI 97))) (j := j) (p := p + 1) (hT.up (by simp [zuF]) (by simp [zuA_nk])) hV (by simp [zuF]) (by omega) (Or.inr ⟨by simp [zuF, h20], d1⟩)
    have g0 : (zuF f 85 19 (nI (p + 1))) 85 21 = nI k := by simp [zuF, h21]
    have g1 : (zuF (zuF f 85 19 (nI (p + 1))) 85 20 (nI 1)) 85 21 = nI k := by simp [zuF, h21]
    refine ⟨(zuF (zuF (zuF f 85 19 (nI (p + 1))) 85 20 (nI 1)) 85 21 (nI (k + 1))), (zuA (zuA (zuA (zuA a 99 (nI k) (nI 97)) 100 (nI k) (nI 0)) 101 (nI k) (nI 0)) 102 (nI k) (nI 0)), ?_, ?_, ?_, ((((((MFK.rf.F (i := 19) (x := nI (p + 1)) (by omega)).A (c := 99) (x := nI 97) hk (by omega)).F (i := 20) (x := nI 1) (by omega)).A (c := 100) (x := nI 0) hk (by omega)).A (c := 101) (x := nI 0) hk (by omega)).A (c := 102) (x := nI 0) hk (by omega)).F (i := 21) (x := nI (k + 1)) (by omega)⟩
    · simp only [q143_0, q143_1, q143_4, q143_5, q143_6, q143_9, q143_11, q143_14, q143_15, q143_17, q143_20, q143_21, q143_23, q143_26, q143_27, q143_29, q143_32, q143_33, q143_35, q143_38, q143_39, q143_41, q143_44, q143_45, q143_47, q143_50, q143_51, q143_52, q143_55, q143_56, q143_57, q143_58, q143_61, q143_62, q143_63, q143_66, q143_67, q143_70, q143_71, q143_74, q143_75, q143_76, q143_77, q143_80, q143_81, q143_84, q143_85, q143_87, q143_90, q143_91, q143_94, q143_97, q143_98, q143_101, q143_102, q143_103, q143_106, q143_107, q143_110, q143_111, q143_113, q143_116, q143_117, q143_119, q143_122, q143_123, q143_126, q143_129, q143_130, q143_131, q143_132, q143_135, q143_136, q143_139, q143_140, q143_142, q143_145, q143_146, q143_149, q143_152, q143_153, q143_154, q143_155, q143_156, q143_159, q143_160, q143_161, q143_164, hH, h9, c12, ix99', ix100', ix101', ix102', lq 97 102 (by omega) (by omega) (by omega), lq 97 99 (by omega) (by omega) (by omega), lq 97 104 (by omega) (by omega) (by omega), lq 97 117 (by omega) (by omega) (by omega), lq 97 112 (by omega) (by omega) (by omega), c0, h21, g0, g1, zCall_some, Option.toList, List.cons_append, List.nil_append, zb_0, zb_1, zem, z01, z11, nI_add, ↓reduceIte, not_true_eq_false, not_false_eq_true, n0T, n1F, n11T, true_or, or_true, false_or]
    · exact fun z => absurd z ck.1
    · intro _
      rw [ck.2]
      exact ⟨by simp [zuF], by simp [zuF]⟩
theorem cl_p {sc : Int32 × (Int32 → Int32)} {f : zF} {a : zA} {j : zJ} {d tn p k : Nat} {tx : Nat → Nat} (hT : MX tx tn f a) (hV : VX tx tn) (hp : p < tn) (hx : tx p = 112) (hk : k < 12) (h9 : f 85 19 = nI p) (h20 : f 85 20 = nI 0) (h21 : f 85 21 = nI k) : ∃ (f' : zF) (a' : zA), cf sc (d + 4) 143 [.ref 85] f a j = some (none, f', a', j) ∧ ClR tx tn k p f f' a a' := by
  have h100 := hV.1
  have hm : nmF (tx p) = 1 := by rw [hx]; rfl
  have hH := m_here (sc := sc) (d := d + 2) (f := f) (a := a) (j := j) hT hV h9 (by omega)
  unfold hrF at hH
  rw [if_pos hp, hx] at hH
  have c12 : ¬ nI k = nI 12 := nI_ne (by omega) (by omega) (by omega)
  have ix99' : zIx 21 99 (nI k) := ix99 hk
  have ix100' : zIx 21 100 (nI k) := ix100 hk
  have ix101' : zIx 21 101 (nI k) := ix101 hk
  have ix102' : zIx 21 102 (nI k) := ix102 hk
  have lq : ∀ x y, x < 200 → y < 200 → x ≠ y → ¬ nI x = nI y := fun x y h1 h2 h => nI_ne (by omega) (by omega) h
  rw [en143]
  unfold ClR MCL
  have lx : ¬ lxB tx tn p = true := lx_no2 (by omega)
  by_cases d1 : dgA tx tn (p + 1) = true
  · have ck : ckB tx tn p = true := ck_yes hp hm (by omega) (by rw [fdN1, if_pos d1])
    have c0 := m_dOk (sc := sc) (d := d + 1) (f := (zuF f 85 19 (nI (p + 1)))) (a := (zuA a 99 (nI k) (nI 112))) (j := j) (p := p + 1) (hT.up (by simp [zuF]) (by simp [zuA_nk])) hV (by simp [zuF, h20]) (by simp [zuF]) d1
    have g0 : (zuF f 85 19 (nI (p + 1))) 85 21 = nI k := by simp [zuF, h21]
    have g1 : (zuF (zuF f 85 19 (nI (p + 1))) 85 19 (nI (p + 2))) 85 21 = nI k := by simp [zuF, h21]
    refine ⟨(zuF (zuF (zuF f 85 19 (nI (p + 1))) 85 19 (nI (p + 2))) 85 21 (nI (k + 1))), (zuA (zuA (zuA (zuA a 99 (nI k) (nI 112)) 100 (nI k) (nI (tx (p + 1) - 48))) 101 (nI k) (nI 0)) 102 (nI k) (nI 0)), ?_, ?_, ?_, ((((((MFK.rf.F (i := 19) (x := nI (p + 1)) (by omega)).A (c := 99) (x := nI 112) hk (by omega)).F (i := 19) (x := nI (p + 2)) (by omega)).A (c := 100) (x := nI (tx (p + 1) - 48)) hk (by omega)).A (c := 101) (x := nI 0) hk (by omega)).A (c := 102) (x := nI 0) hk (by omega)).F (i := 21) (x := nI (k + 1)) (by omega)⟩
    · simp only [q143_0, q143_1, q143_4, q143_5, q143_6, q143_9, q143_11, q143_14, q143_15, q143_17, q143_20, q143_21, q143_23, q143_26, q143_27, q143_29, q143_32, q143_33, q143_35, q143_38, q143_39, q143_41, q143_44, q143_45, q143_47, q143_50, q143_51, q143_52, q143_55, q143_56, q143_57, q143_58, q143_61, q143_62, q143_63, q143_66, q143_67, q143_70, q143_71, q143_74, q143_75, q143_76, q143_77, q143_80, q143_81, q143_84, q143_85, q143_87, q143_90, q143_91, q143_94, q143_97, q143_98, q143_101, q143_102, q143_103, q143_106, q143_107, q143_110, q143_111, q143_113, q143_116, q143_117, q143_119, q143_122, q143_123, q143_126, q143_129, q143_130, q143_131, q143_132, q143_135, q143_136, q143_139, q143_140, q143_142, q143_145, q143_146, q143_149, q143_152, q143_153, q143_154, q143_155, q143_156, q143_159, q143_160, q143_161, q143_164, hH, h9, c12, ix99', ix100', ix101', ix102', lq 112 102 (by omega) (by omega) (by omega), lq 112 99 (by omega) (by omega) (by omega), lq 112 104 (by omega) (by omega) (by omega), lq 112 117 (by omega) (by omega) (by omega), lq 112 97 (by omega) (by omega) (by omega), c0, h21, g0, g1, zCall_some, Option.toList, List.cons_append, List.nil_append, zb_0, zb_1, zem, z01, z11, nI_add, ↓reduceIte, not_true_eq_false, not_false_eq_true, n0T, n1F, n11T, true_or, or_true, false_or]
    · intro _
      refine ⟨by simp [zuF, h20], ?_, by simp [zuF], ?_, ?_, ?_, ?_⟩
      · rw [zuF_ni (by omega), show clE tx tn p = p + 2 from by unfold clE; rw [hm, if_neg lx]]; exact zuF_eq
      · rw [hx]; simp [zuA]
      · rw [vl_one (fun z => lx z.2)]; simp [zuA]
      · intro z; rw [hm] at z; omega
      · intro z; rw [hm] at z; omega
    · exact fun z => absurd ck z
  · have ck := ck_no (q := 0) hp hm (by omega) (by rw [fdN1, if_neg d1]) (by omega)
    have c0 := m_dNo (sc := sc) (d := d + 1) (f := (zuF f 85 19 (nI (p + 1)))) (a := (zuA a 99 (nI k) (nI 112))) (j := j) (p := p + 1) (hT.up (by simp [zuF]) (by simp [zuA_nk])) hV (by simp [zuF]) (by omega) (Or.inr ⟨by simp [zuF, h20], d1⟩)
    have g0 : (zuF f 85 19 (nI (p + 1))) 85 21 = nI k := by simp [zuF, h21]
    have g1 : (zuF (zuF f 85 19 (nI (p + 1))) 85 20 (nI 1)) 85 21 = nI k := by simp [zuF, h21]
    refine ⟨(zuF (zuF (zuF f 85 19 (nI (p + 1))) 85 20 (nI 1)) 85 21 (nI (k + 1))), (zuA (zuA (zuA (zuA a 99 (nI k) (nI 112)) 100 (nI k) (nI 0)) 101 (nI k) (nI 0)) 102 (nI k) (nI 0)), ?_, ?_, ?_, ((((((MFK.rf.F (i := 19) (x := nI (p + 1)) (by omega)).A (c := 99) (x := nI 112) hk (by omega)).F (i := 20) (x := nI 1) (by omega)).A (c := 100) (x := nI 0) hk (by omega)).A (c := 101) (x := nI 0) hk (by omega)).A (c := 102) (x := nI 0) hk (by omega)).F (i := 21) (x := nI (k + 1)) (by omega)⟩
    · simp only [q143_0, q143_1, q143_4, q143_5, q143_6, q143_9, q143_11, q143_14, q143_15, q143_17, q143_20, q143_21, q143_23, q143_26, q143_27, q143_29, q143_32, q143_33, q143_35, q143_38, q143_39, q143_41, q143_44, q143_45, q143_47, q143_50, q143_51, q143_52, q143_55, q143_56, q143_57, q143_58, q143_61, q143_62, q143_63, q143_66, q143_67, q143_70, q143_71, q143_74, q143_75, q143_76, q143_77, q143_80, q143_81, q143_84, q143_85, q143_87, q143_90, q143_91, q143_94, q143_97, q143_98, q143_101, q143_102, q143_103, q143_106, q143_107, q143_110, q143_111, q143_113, q143_116, q143_117, q143_119, q143_122, q143_123, q143_126, q143_129, q143_130, q143_131, q143_132, q143_135, q143_136, q143_139, q143_140, q143_142, q143_145, q143_146, q143_149, q143_152, q143_153, q143_154, q143_155, q143_156, q143_159, q143_160, q143_161, q143_164, hH, h9, c12, ix99', ix100', ix101', ix102', lq 112 102 (by omega) (by omega) (by omega), lq 112 99 (by omega) (by omega) (by omega), lq 112 104 (by omega) (by omega) (by omega), lq 112 117 (by omega) (by omega) (by omega), lq 112 97 (by omega) (by omega) (by omega), c0, h21, g0, g1, zCall_some, Option.toList, List.cons_append, List.nil_append, zb_0, zb_1, zem, z01, z11, nI_add, ↓reduceIte, not_true_eq_false, not_false_eq_true, n0T, n1F, n11T, true_or, or_true, false_or]
    · exact fun z => absurd z ck.1
    · intro _
      rw [ck.2]
      exact ⟨by simp [zuF], by simp [zuF]⟩
theorem m_clause {sc : Int32 × (Int32 → Int32)} {f : zF} {a : zA} {j : zJ} {d tn p k : Nat} {tx : Nat → Nat} (hT : MX tx tn f a) (hV : VX tx tn) (hp : p ≤ tn) (hk : k < 12) (h9 : f 85 19 = nI p) (h20 : f 85 20 = nI 0) (h21 : f 85 21 = nI k) : ∃ (f' : zF) (a' : zA), cf sc (d + 4) 143 [.ref 85] f a j = some (none, f', a', j) ∧ ClR tx tn k p f f' a a' := by
  have h100 := hV.1
  by_cases hz : p < tn ∧ nmF (tx p) ≠ 0
  · obtain ⟨h1, h2⟩ := hz
    rcases nmF_c h2 with ⟨hx, -⟩ | ⟨hx, -⟩ | ⟨hx, -⟩ | ⟨hx, -⟩ | ⟨hx, -⟩ | ⟨hx, -⟩
    · exact cl_f hT hV h1 hx hk h9 h20 h21
    · exact cl_c hT hV h1 hx hk h9 h20 h21
    · exact cl_h hT hV h1 hx hk h9 h20 h21
    · exact cl_u hT hV h1 hx hk h9 h20 h21
    · exact cl_a hT hV h1 hx hk h9 h20 h21
    · exact cl_p hT hV h1 hx hk h9 h20 h21
  · have hck : ¬ ckB tx tn p = true := fun q => hz (by have := of_decide_eq_true q; exact ⟨this.1, this.2.1⟩)
    have hfl : fltP tx tn p = p := by
      unfold fltP
      rw [if_pos]
      rcases Nat.lt_or_ge p tn with q | q
      · refine Or.inr ?_
        by_cases z : nmF (tx p) = 0
        · exact z
        · exact absurd ⟨q, z⟩ hz
      · exact Or.inl q
    have hH := m_here (sc := sc) (d := d + 2) (f := f) (a := a) (j := j) hT hV h9 (by omega)
    have c12 : ¬ nI k = nI 12 := nI_ne (by omega) (by omega) (by omega)
    have hno : ∀ y, (y = 102 ∨ y = 99 ∨ y = 104 ∨ y = 117 ∨ y = 97 ∨ y = 112) → ¬ hrF tx tn p = nI y := by
      intro y hy
      unfold hrF
      by_cases q : p < tn
      · rw [if_pos q]
        have h128 := hV.2 p q
        intro e
        have e := (nI_eq (by omega) (by omega)).mp e
        refine hz ⟨q, ?_⟩
        rw [e]
        rcases hy with rfl | rfl | rfl | rfl | rfl | rfl <;> decide
      · rw [if_neg q]
        rcases hy with rfl | rfl | rfl | rfl | rfl | rfl <;> decide
    refine ⟨zuF f 85 20 (nI 1), a, ?_, fun z => absurd z hck, fun _ => ⟨zuF_eq, by rw [zuF_ni (by omega), hfl]; exact h9⟩, MFK.rf.F (by omega)⟩
    rw [en143]
    simp only [q143_0, q143_1, q143_4, q143_5, q143_6, q143_9, q143_11, q143_14, q143_15, q143_17, q143_20, q143_21, q143_23, q143_26, q143_27, q143_29, q143_32, q143_33, q143_35, q143_38, q143_39, q143_41, q143_44, q143_45, q143_47, q143_50, q143_51, q143_52, q143_55, q143_56, q143_57, q143_58, q143_61, q143_62, q143_63, q143_66, q143_67, q143_70, q143_71, q143_74, q143_75, q143_76, q143_77, q143_80, q143_81, q143_84, q143_85, q143_87, q143_90, q143_91, q143_94, q143_97, q143_98, q143_101, q143_102, q143_103, q143_106, q143_107, q143_110, q143_111, q143_113, q143_116, q143_117, q143_119, q143_122, q143_123, q143_126, q143_129, q143_130, q143_131, q143_132, q143_135, q143_136, q143_139, q143_140, q143_142, q143_145, q143_146, q143_149, q143_152, q143_153, q143_154, q143_155, q143_156, q143_159, q143_160, q143_161, q143_164, hH, h21, c12, hno 102 (by omega), hno 99 (by omega), hno 104 (by omega), hno 117 (by omega), hno 97 (by omega), hno 112 (by omega), zCall_some, Option.toList, List.cons_append, List.nil_append, zb_0, zb_1, zem, z01, z11, nI_add, ↓reduceIte, not_true_eq_false, not_false_eq_true, n0T, n1F, n11T, true_or, or_true, false_or]
theorem ck_9 {tx : Nat → Nat} {tn p : Nat} (h : ckB tx tn p = true) (hx : tx p = 99) : vlF tx tn p 1 ≤ 9 := by
  have h := of_decide_eq_true h
  have hm : nmF (tx p) = 3 := by rw [hx]; rfl
  have h3 := h.2.2
  rw [hm, fdN3] at h3
  rw [vl_one (fun z => by have := z.1; omega)]
  by_cases d1 : dgA tx tn (p + 1) = true
  · rw [if_pos d1] at h3
    by_cases d2 : dgA tx tn (p + 1 + 1) = true
    · have := dg_lt d2
      omega
    · rw [if_neg d2] at h3; omega
  · rw [if_neg d1] at h3; omega
theorem dc_8 {σ : Nat → Nat} {x v1 v2 v3 : Nat} (h : σ 0 ≤ 8) : (dcS σ x v1 v2 v3).2 0 ≤ 8 := by
  have k : ∀ p y, p ≠ 0 → zup (zup σ p y) 4 0 0 ≤ 8 := fun p y hp => by rw [zup_ne (by omega), zup_ne (by omega)]; exact h
  unfold dcS
  split
  · unfold cfS
    split
    · split
      · dsimp only
        unfold cfU
        rw [zup_eq]
        omega
      · exact h
    · exact h
  · split
    · unfold srS
      split
      · split
        · dsimp only
          rw [zup_ne (by omega), zup_ne (by omega), zup_ne (by omega)]
          exact h
        · exact h
      · exact h
    · split
      · unfold hwS
        split
        · exact k 1 (nI v1).toNatClampNeg (by omega)
        · exact h
      · split
        · unfold ruS
          split
          · exact k 2 (nI v1).toNatClampNeg (by omega)
          · exact h
        · split
          · unfold awS
            split
            · exact k _ _ (by omega)
            · exact h
          · unfold awS
            split
            · exact k _ _ (by omega)
            · exact h
theorem m_isDone {sc : Int32 × (Int32 → Int32)} {f : zF} {a : zA} {j : zJ} {d k p tn : Nat} {tx : Nat → Nat} {σ : Nat → Nat} (hk : k < 12) (hC : MCL tx tn k p a) (hn : nmF (tx p) ≠ 0) (h9 : tx p = 99 → vlF tx tn p 1 ≤ 9) (hR : MR σ a) (h8 : σ 0 ≤ 8) :
    ∃ a' : zA, cf sc (d + 4) 144 [.ref 85, .int (nI k)] f a j = some (some (.int (zb (¬ (dcS σ (tx p) (vlF tx tn p 0) (vlF tx tn p 1) (vlF tx tn p 2)).1 < 0))), f, a', j) ∧ MR (dcS σ (tx p) (vlF tx tn p 0) (vlF tx tn p 1) (vlF tx tn p 2)).2 a' ∧ ∀ k, k ≠ 86 → a' k = a k := by
  obtain ⟨c1, c2, c3, c4⟩ := hC
  have i9 : zIx 21 99 (nI k) := ix99 hk
  have i0 : zIx 21 100 (nI k) := ix100 hk
  have i1 : zIx 21 101 (nI k) := ix101 hk
  have i2 : zIx 21 102 (nI k) := ix102 hk
  have lq : ∀ x y, x < 200 → y < 200 → x ≠ y → ¬ nI x = nI y := fun x y h1 h2 h => nI_ne (by omega) (by omega) h
  rw [en144]
  rcases nmF_c hn with ⟨hx, hm⟩ | ⟨hx, hm⟩ | ⟨hx, hm⟩ | ⟨hx, hm⟩ | ⟨hx, hm⟩ | ⟨hx, hm⟩
  · have eD : dcS σ (tx p) (vlF tx tn p 0) (vlF tx tn p 1) (vlF tx tn p 2) = cfS σ (nI (vlF tx tn p 0)) (nI (vlF tx tn p 1)) := by unfold dcS; rw [if_pos hx]
    rw [eD]
    rw [hx] at c1
    have c3' := c3 (by omega)
    obtain ⟨a', g1, g2⟩ := y_field (sc := sc) (d := d + 1) (f := f) (j := j) (x := nI (vlF tx tn p 0)) (y := nI (vlF tx tn p 1)) hR h8
    refine ⟨a', ?_, g2⟩
    by_cases z : (cfS σ (nI (vlF tx tn p 0)) (nI (vlF tx tn p 1))).1 < 0
    · rw [zb_f (fun q => q z)]
      simp only [q144_0, q144_1, q144_4, q144_5, q144_6, q144_56, q144_57, q144_58, q144_61, q144_62, q144_63, q144_64, q144_67, q144_68, q144_69, q144_72, q144_75, q144_76, q144_79, q144_80, q144_81, q144_82, q144_85, q144_86, q144_87, q144_88, q144_89, q144_92, q144_95, q144_98, q144_99, q144_102, q144_103, q144_104, q144_105, q144_106, q144_109, q144_112, q144_115, q144_116, q144_117, q144_118, q144_119, q144_122, q144_123, q144_124, q144_125, q144_126, q144_129, q144_130, q144_131, q144_134, q144_135, q144_136, q144_137, q144_140, q144_141, q144_142, q144_143, q144_144, q144_147, q144_148, q144_149, q144_152, q144_153, q144_154, q144_155, q144_156, q144_157, q144_160, q144_161, q144_162, q144_165, q144_168, q144_169, q144_172, q144_173, q144_174, q144_175, q144_176, q144_179, q144_180, q144_181, q144_184, q144_187, q144_188, q144_191, q144_192, q144_193, q144_194, q144_195, q144_198, q144_199, q144_200, q144_201, q144_204, q144_207, q144_208, q144_211, q144_212, q144_213, q144_214, q144_215, q144_218, q144_219, q144_220, q144_221, q144_224, q144_227, q144_228, q144_231, q144_232, i9, i0, i1, i2, c1, c2, c3', lq 102 97 (by omega) (by omega) (by omega), lq 102 99 (by omega) (by omega) (by omega), lq 102 104 (by omega) (by omega) (by omega), lq 102 117 (by omega) (by omega) (by omega), g1, eq_true z, zCall_some, Option.toList, List.cons_append, List.nil_append, zb_0, zb_1, zem, z01, z11, nI_add, ↓reduceIte, not_true_eq_false, not_false_eq_true, n0T, n1F, n11T, true_or, or_true, false_or]
    · rw [zb_t z]
      simp only [q144_0, q144_1, q144_4, q144_5, q144_6, q144_56, q144_57, q144_58, q144_61, q144_62, q144_63, q144_64, q144_67, q144_68, q144_69, q144_72, q144_75, q144_76, q144_79, q144_80, q144_81, q144_82, q144_85, q144_86, q144_87, q144_88, q144_89, q144_92, q144_95, q144_98, q144_99, q144_102, q144_103, q144_104, q144_105, q144_106, q144_109, q144_112, q144_115, q144_116, q144_117, q144_118, q144_119, q144_122, q144_123, q144_124, q144_125, q144_126, q144_129, q144_130, q144_131, q144_134, q144_135, q144_136, q144_137, q144_140, q144_141, q144_142, q144_143, q144_144, q144_147, q144_148, q144_149, q144_152, q144_153, q144_154, q144_155, q144_156, q144_157, q144_160, q144_161, q144_162, q144_165, q144_168, q144_169, q144_172, q144_173, q144_174, q144_175, q144_176, q144_179, q144_180, q144_181, q144_184, q144_187, q144_188, q144_191, q144_192, q144_193, q144_194, q144_195, q144_198, q144_199, q144_200, q144_201, q144_204, q144_207, q144_208, q144_211, q144_212, q144_213, q144_214, q144_215, q144_218, q144_219, q144_220, q144_221, q144_224, q144_227, q144_228, q144_231, q144_232, i9, i0, i1, i2, c1, c2, c3', lq 102 97 (by omega) (by omega) (by omega), lq 102 99 (by omega) (by omega) (by omega), lq 102 104 (by omega) (by omega) (by omega), lq 102 117 (by omega) (by omega) (by omega), g1, eq_false z, zCall_some, Option.toList, List.cons_append, List.nil_append, zb_0, zb_1, zem, z01, z11, nI_add, ↓reduceIte, not_true_eq_false, not_false_eq_true, n0T, n1F, n11T, true_or, or_true, false_or]
  · have eD : dcS σ (tx p) (vlF tx tn p 0) (vlF tx tn p 1) (vlF tx tn p 2) = srS σ (nI (vlF tx tn p 0)) (nI (vlF tx tn p 1)) (nI (vlF tx tn p 2)) := by unfold dcS; rw [if_neg (by omega), if_pos hx]
    rw [eD]
    have h9 := h9 hx
    have c3 := c3 (by omega)
    have c4 := c4 (by omega)
    rw [hx] at c1
    generalize vlF tx tn p 0 = V0 at c2 ⊢
    generalize vlF tx tn p 1 = V1 at c3 h9 ⊢
    generalize vlF tx tn p 2 = V2 at c4 ⊢
    unfold srS
    by_cases w0 : zBtw (nI V0) 0 3
    · rw [if_pos w0]
      by_cases w2 : zBtw (nI V2) 0 25
      · have w1 : zBtw (nI V1) 0 9 := zBtw_nI (by omega) (by omega) h9
        rw [if_pos ⟨w1, w2⟩]
        obtain ⟨v0, x1, x2, e0⟩ := zBtw_of (by omega) (by omega) w0
        obtain ⟨v2, y1, y2, e2⟩ := zBtw_of (by omega) (by omega) w2
        rw [e0] at c2 w0
        rw [e2] at c4 w2
        rw [e0, e2, nI_clamp (n := v0) (by omega), nI_clamp (n := V1) (by omega), nI_clamp (n := v2) (by omega)]
        obtain ⟨a1, g1, g2, g3⟩ := y_reach (sc := sc) (d := d + 1) (f := f) (j := j) (v := nI v0) (w := nI 0) (x := nI V1) hR
        have r1 : rrS σ (nI v0) (nI 0) (nI V1) = (nI (σ (8 + v0)), zup (zup σ (8 + v0) V1) 4 0) := by
          unfold rrS
          rw [if_pos ⟨w0, zBtw_nI (by omega) (by omega) (by omega)⟩, if_pos rfl, if_pos w1, nI_clamp (n := v0) (by omega), nI_clamp (n := V1) (by omega)]
        rw [r1] at g1 g2
        obtain ⟨a2, k1, k2, k3⟩ := y_reach (sc := sc) (d := d + 1) (f := f) (j := j) (v := nI v0) (w := nI 1) (x := nI v2) g2
        have r2 : rrS (zup (zup σ (8 + v0) V1) 4 0) (nI v0) (nI 1) (nI v2) = (nI (zup (zup σ (8 + v0) V1) 4 0 (12 + v0)), zup (zup (zup (zup σ (8 + v0) V1) 4 0) (12 + v0) v2) 4 0) := by
          unfold rrS
          rw [if_pos ⟨w0, zBtw_nI (by omega) (by omega) (by omega)⟩, if_neg ne1_0, if_pos w2, nI_clamp (n := v0) (by omega), nI_clamp (n := v2) (by omega)]
        rw [r2] at k1 k2
        have e100 : a1 100 (nI k) = nI v0 := by rw [g3 100 (by omega)]; exact c2
        have e102 : a1 102 (nI k) = nI v2 := by rw [g3 102 (by omega)]; exact c4
        refine ⟨a2, ?_, k2.ext (fun i _ => ?_), fun k hk => by rw [k3 k hk, g3 k hk]⟩
        · rw [zb_t (show ¬ nI 0 < 0 by decide)]
          simp only [q144_0, q144_1, q144_4, q144_5, q144_6, q144_56, q144_57, q144_58, q144_61, q144_62, q144_63, q144_64, q144_67, q144_68, q144_69, q144_72, q144_75, q144_76, q144_79, q144_80, q144_81, q144_82, q144_85, q144_86, q144_87, q144_88, q144_89, q144_92, q144_95, q144_98, q144_99, q144_102, q144_103, q144_104, q144_105, q144_106, q144_109, q144_112, q144_115, q144_116, q144_117, q144_118, q144_119, q144_122, q144_123, q144_124, q144_125, q144_126, q144_129, q144_130, q144_131, q144_134, q144_135, q144_136, q144_137, q144_140, q144_141, q144_142, q144_143, q144_144, q144_147, q144_148, q144_149, q144_152, q144_153, q144_154, q144_155, q144_156, q144_157, q144_160, q144_161, q144_162, q144_165, q144_168, q144_169, q144_172, q144_173, q144_174, q144_175, q144_176, q144_179, q144_180, q144_181, q144_184, q144_187, q144_188, q144_191, q144_192, q144_193, q144_194, q144_195, q144_198, q144_199, q144_200, q144_201, q144_204, q144_207, q144_208, q144_211, q144_212, q144_213, q144_214, q144_215, q144_218, q144_219, q144_220, q144_221, q144_224, q144_227, q144_228, q144_231, q144_232, in03, in025, i9, i0, i1, i2, c1, c2, c3, c4, eq_true w0, eq_true w2, g1, e100, e102, k1, lq 99 97 (by omega) (by omega) (by omega), lq 99 102 (by omega) (by omega) (by omega), lq 99 104 (by omega) (by omega) (by omega), lq 99 117 (by omega) (by omega) (by omega), zCall_some, Option.toList, List.cons_append, List.nil_append, zb_0, zb_1, zem, z01, z11, nI_add, ↓reduceIte, not_true_eq_false, not_false_eq_true, n0T, n1F, n11T, true_or, or_true, false_or]
        · dsimp only
          by_cases q4 : i = 4
          · rw [q4, zup_eq, zup_eq]
          · rw [zup_ne q4, zup_ne q4]
            by_cases q12 : i = 12 + v0
            · rw [q12, zup_eq, zup_eq]
            · rw [zup_ne q12, zup_ne q12, zup_ne q4]
      · rw [if_neg (fun q => w2 q.2)]
        refine ⟨a, ?_, hR, fun _ _ => rfl⟩
        rw [zb_f (fun q => q (show (-2 : Int32) < 0 by decide))]
        simp only [q144_0, q144_1, q144_4, q144_5, q144_6, q144_56, q144_57, q144_58, q144_61, q144_62, q144_63, q144_64, q144_67, q144_68, q144_69, q144_72, q144_75, q144_76, q144_79, q144_80, q144_81, q144_82, q144_85, q144_86, q144_87, q144_88, q144_89, q144_92, q144_95, q144_98, q144_99, q144_102, q144_103, q144_104, q144_105, q144_106, q144_109, q144_112, q144_115, q144_116, q144_117, q144_118, q144_119, q144_122, q144_123, q144_124, q144_125, q144_126, q144_129, q144_130, q144_131, q144_134, q144_135, q144_136, q144_137, q144_140, q144_141, q144_142, q144_143, q144_144, q144_147, q144_148, q144_149, q144_152, q144_153, q144_154, q144_155, q144_156, q144_157, q144_160, q144_161, q144_162, q144_165, q144_168, q144_169, q144_172, q144_173, q144_174, q144_175, q144_176, q144_179, q144_180, q144_181, q144_184, q144_187, q144_188, q144_191, q144_192, q144_193, q144_194, q144_195, q144_198, q144_199, q144_200, q144_201, q144_204, q144_207, q144_208, q144_211, q144_212, q144_213, q144_214, q144_215, q144_218, q144_219, q144_220, q144_221, q144_224, q144_227, q144_228, q144_231, q144_232, in03, in025, i9, i0, i1, i2, c1, c2, c3, c4, eq_true w0, eq_false w2, lq 99 97 (by omega) (by omega) (by omega), lq 99 102 (by omega) (by omega) (by omega), lq 99 104 (by omega) (by omega) (by omega), lq 99 117 (by omega) (by omega) (by omega), zCall_some, Option.toList, List.cons_append, List.nil_append, zb_0, zb_1, zem, z01, z11, nI_add, ↓reduceIte, not_true_eq_false, not_false_eq_true, n0T, n1F, n11T, true_or, or_true, false_or]
    · rw [if_neg w0]
      refine ⟨a, ?_, hR, fun _ _ => rfl⟩
      rw [zb_f (fun q => q (show (-1 : Int32) < 0 by decide))]
      simp only [q144_0, q144_1, q144_4, q144_5, q144_6, q144_56, q144_57, q144_58, q144_61, q144_62, q144_63, q144_64, q144_67, q144_68, q144_69, q144_72, q144_75, q144_76, q144_79, q144_80, q144_81, q144_82, q144_85, q144_86, q144_87, q144_88, q144_89, q144_92, q144_95, q144_98, q144_99, q144_102, q144_103, q144_104, q144_105, q144_106, q144_109, q144_112, q144_115, q144_116, q144_117, q144_118, q144_119, q144_122, q144_123, q144_124, q144_125, q144_126, q144_129, q144_130, q144_131, q144_134, q144_135, q144_136, q144_137, q144_140, q144_141, q144_142, q144_143, q144_144, q144_147, q144_148, q144_149, q144_152, q144_153, q144_154, q144_155, q144_156, q144_157, q144_160, q144_161, q144_162, q144_165, q144_168, q144_169, q144_172, q144_173, q144_174, q144_175, q144_176, q144_179, q144_180, q144_181, q144_184, q144_187, q144_188, q144_191, q144_192, q144_193, q144_194, q144_195, q144_198, q144_199, q144_200, q144_201, q144_204, q144_207, q144_208, q144_211, q144_212, q144_213, q144_214, q144_215, q144_218, q144_219, q144_220, q144_221, q144_224, q144_227, q144_228, q144_231, q144_232, in03, in025, i9, i0, i1, i2, c1, c2, c3, c4, eq_false w0, lq 99 97 (by omega) (by omega) (by omega), lq 99 102 (by omega) (by omega) (by omega), lq 99 104 (by omega) (by omega) (by omega), lq 99 117 (by omega) (by omega) (by omega), zCall_some, Option.toList, List.cons_append, List.nil_append, zb_0, zb_1, zem, z01, z11, nI_add, ↓reduceIte, not_true_eq_false, not_false_eq_true, n0T, n1F, n11T, true_or, or_true, false_or]
  · have eD : dcS σ (tx p) (vlF tx tn p 0) (vlF tx tn p 1) (vlF tx tn p 2) = hwS σ (nI (vlF tx tn p 0)) := by unfold dcS; rw [if_neg (by omega), if_neg (by omega), if_pos hx]
    rw [eD]
    rw [hx] at c1
    obtain ⟨a', g1, g2⟩ := y_hours (sc := sc) (d := d + 1) (f := f) (j := j) (v := nI (vlF tx tn p 0)) hR
    refine ⟨a', ?_, g2⟩
    by_cases z : (hwS σ (nI (vlF tx tn p 0))).1 < 0
    · rw [zb_f (fun q => q z)]
      simp only [q144_0, q144_1, q144_4, q144_5, q144_6, q144_56, q144_57, q144_58, q144_61, q144_62, q144_63, q144_64, q144_67, q144_68, q144_69, q144_72, q144_75, q144_76, q144_79, q144_80, q144_81, q144_82, q144_85, q144_86, q144_87, q144_88, q144_89, q144_92, q144_95, q144_98, q144_99, q144_102, q144_103, q144_104, q144_105, q144_106, q144_109, q144_112, q144_115, q144_116, q144_117, q144_118, q144_119, q144_122, q144_123, q144_124, q144_125, q144_126, q144_129, q144_130, q144_131, q144_134, q144_135, q144_136, q144_137, q144_140, q144_141, q144_142, q144_143, q144_144, q144_147, q144_148, q144_149, q144_152, q144_153, q144_154, q144_155, q144_156, q144_157, q144_160, q144_161, q144_162, q144_165, q144_168, q144_169, q144_172, q144_173, q144_174, q144_175, q144_176, q144_179, q144_180, q144_181, q144_184, q144_187, q144_188, q144_191, q144_192, q144_193, q144_194, q144_195, q144_198, q144_199, q144_200, q144_201, q144_204, q144_207, q144_208, q144_211, q144_212, q144_213, q144_214, q144_215, q144_218, q144_219, q144_220, q144_221, q144_224, q144_227, q144_228, q144_231, q144_232, i9, i0, i1, i2, c1, c2, lq 104 97 (by omega) (by omega) (by omega), lq 104 99 (by omega) (by omega) (by omega), lq 104 102 (by omega) (by omega) (by omega), lq 104 117 (by omega) (by omega) (by omega), g1, eq_true z, zCall_some, Option.toList, List.cons_append, List.nil_append, zb_0, zb_1, zem, z01, z11, nI_add, ↓reduceIte, not_true_eq_false, not_false_eq_true, n0T, n1F, n11T, true_or, or_true, false_or]
    · rw [zb_t z]
      simp only [q144_0, q144_1, q144_4, q144_5, q144_6, q144_56, q144_57, q144_58, q144_61, q144_62, q144_63, q144_64, q144_67, q144_68, q144_69, q144_72, q144_75, q144_76, q144_79, q144_80, q144_81, q144_82, q144_85, q144_86, q144_87, q144_88, q144_89, q144_92, q144_95, q144_98, q144_99, q144_102, q144_103, q144_104, q144_105, q144_106, q144_109, q144_112, q144_115, q144_116, q144_117, q144_118, q144_119, q144_122, q144_123, q144_124, q144_125, q144_126, q144_129, q144_130, q144_131, q144_134, q144_135, q144_136, q144_137, q144_140, q144_141, q144_142, q144_143, q144_144, q144_147, q144_148, q144_149, q144_152, q144_153, q144_154, q144_155, q144_156, q144_157, q144_160, q144_161, q144_162, q144_165, q144_168, q144_169, q144_172, q144_173, q144_174, q144_175, q144_176, q144_179, q144_180, q144_181, q144_184, q144_187, q144_188, q144_191, q144_192, q144_193, q144_194, q144_195, q144_198, q144_199, q144_200, q144_201, q144_204, q144_207, q144_208, q144_211, q144_212, q144_213, q144_214, q144_215, q144_218, q144_219, q144_220, q144_221, q144_224, q144_227, q144_228, q144_231, q144_232, i9, i0, i1, i2, c1, c2, lq 104 97 (by omega) (by omega) (by omega), lq 104 99 (by omega) (by omega) (by omega), lq 104 102 (by omega) (by omega) (by omega), lq 104 117 (by omega) (by omega) (by omega), g1, eq_false z, zCall_some, Option.toList, List.cons_append, List.nil_append, zb_0, zb_1, zem, z01, z11, nI_add, ↓reduceIte, not_true_eq_false, not_false_eq_true, n0T, n1F, n11T, true_or, or_true, false_or]
  · have eD : dcS σ (tx p) (vlF tx tn p 0) (vlF tx tn p 1) (vlF tx tn p 2) = ruS σ (nI (vlF tx tn p 0)) := by unfold dcS; rw [if_neg (by omega), if_neg (by omega), if_neg (by omega), if_pos hx]
    rw [eD]
    rw [hx] at c1
    obtain ⟨a', g1, g2⟩ := y_rule (sc := sc) (d := d + 1) (f := f) (j := j) (v := nI (vlF tx tn p 0)) hR
    refine ⟨a', ?_, g2⟩
    by_cases z : (ruS σ (nI (vlF tx tn p 0))).1 < 0
    · rw [zb_f (fun q => q z)]
      simp only [q144_0, q144_1, q144_4, q144_5, q144_6, q144_56, q144_57, q144_58, q144_61, q144_62, q144_63, q144_64, q144_67, q144_68, q144_69, q144_72, q144_75, q144_76, q144_79, q144_80, q144_81, q144_82, q144_85, q144_86, q144_87, q144_88, q144_89, q144_92, q144_95, q144_98, q144_99, q144_102, q144_103, q144_104, q144_105, q144_106, q144_109, q144_112, q144_115, q144_116, q144_117, q144_118, q144_119, q144_122, q144_123, q144_124, q144_125, q144_126, q144_129, q144_130, q144_131, q144_134, q144_135, q144_136, q144_137, q144_140, q144_141, q144_142, q144_143, q144_144, q144_147, q144_148, q144_149, q144_152, q144_153, q144_154, q144_155, q144_156, q144_157, q144_160, q144_161, q144_162, q144_165, q144_168, q144_169, q144_172, q144_173, q144_174, q144_175, q144_176, q144_179, q144_180, q144_181, q144_184, q144_187, q144_188, q144_191, q144_192, q144_193, q144_194, q144_195, q144_198, q144_199, q144_200, q144_201, q144_204, q144_207, q144_208, q144_211, q144_212, q144_213, q144_214, q144_215, q144_218, q144_219, q144_220, q144_221, q144_224, q144_227, q144_228, q144_231, q144_232, i9, i0, i1, i2, c1, c2, lq 117 97 (by omega) (by omega) (by omega), lq 117 99 (by omega) (by omega) (by omega), lq 117 102 (by omega) (by omega) (by omega), lq 117 104 (by omega) (by omega) (by omega), g1, eq_true z, zCall_some, Option.toList, List.cons_append, List.nil_append, zb_0, zb_1, zem, z01, z11, nI_add, ↓reduceIte, not_true_eq_false, not_false_eq_true, n0T, n1F, n11T, true_or, or_true, false_or]
    · rw [zb_t z]
      simp only [q144_0, q144_1, q144_4, q144_5, q144_6, q144_56, q144_57, q144_58, q144_61, q144_62, q144_63, q144_64, q144_67, q144_68, q144_69, q144_72, q144_75, q144_76, q144_79, q144_80, q144_81, q144_82, q144_85, q144_86, q144_87, q144_88, q144_89, q144_92, q144_95, q144_98, q144_99, q144_102, q144_103, q144_104, q144_105, q144_106, q144_109, q144_112, q144_115, q144_116, q144_117, q144_118, q144_119, q144_122, q144_123, q144_124, q144_125, q144_126, q144_129, q144_130, q144_131, q144_134, q144_135, q144_136, q144_137, q144_140, q144_141, q144_142, q144_143, q144_144, q144_147, q144_148, q144_149, q144_152, q144_153, q144_154, q144_155, q144_156, q144_157, q144_160, q144_161, q144_162, q144_165, q144_168, q144_169, q144_172, q144_173, q144_174, q144_175, q144_176, q144_179, q144_180, q144_181, q144_184, q144_187, q144_188, q144_191, q144_192, q144_193, q144_194, q144_195, q144_198, q144_199, q144_200, q144_201, q144_204, q144_207, q144_208, q144_211, q144_212, q144_213, q144_214, q144_215, q144_218, q144_219, q144_220, q144_221, q144_224, q144_227, q144_228, q144_231, q144_232, i9, i0, i1, i2, c1, c2, lq 117 97 (by omega) (by omega) (by omega), lq 117 99 (by omega) (by omega) (by omega), lq 117 102 (by omega) (by omega) (by omega), lq 117 104 (by omega) (by omega) (by omega), g1, eq_false z, zCall_some, Option.toList, List.cons_append, List.nil_append, zb_0, zb_1, zem, z01, z11, nI_add, ↓reduceIte, not_true_eq_false, not_false_eq_true, n0T, n1F, n11T, true_or, or_true, false_or]
  · have eD : dcS σ (tx p) (vlF tx tn p 0) (vlF tx tn p 1) (vlF tx tn p 2) = awS σ (nI (vlF tx tn p 0)) (nI 1) := by unfold dcS; rw [if_neg (by omega), if_neg (by omega), if_neg (by omega), if_neg (by omega), if_pos hx]
    rw [eD]
    rw [hx] at c1
    obtain ⟨a', g1, g2⟩ := y_absent (sc := sc) (d := d) (f := f) (j := j) (v := nI (vlF tx tn p 0)) (b := nI 1) hR h8
    refine ⟨a', ?_, g2⟩
    by_cases z : (awS σ (nI (vlF tx tn p 0)) (nI 1)).1 < 0
    · rw [zb_f (fun q => q z)]
      simp only [q144_0, q144_1, q144_4, q144_5, q144_6, q144_56, q144_57, q144_58, q144_61, q144_62, q144_63, q144_64, q144_67, q144_68, q144_69, q144_72, q144_75, q144_76, q144_79, q144_80, q144_81, q144_82, q144_85, q144_86, q144_87, q144_88, q144_89, q144_92, q144_95, q144_98, q144_99, q144_102, q144_103, q144_104, q144_105, q144_106, q144_109, q144_112, q144_115, q144_116, q144_117, q144_118, q144_119, q144_122, q144_123, q144_124, q144_125, q144_126, q144_129, q144_130, q144_131, q144_134, q144_135, q144_136, q144_137, q144_140, q144_141, q144_142, q144_143, q144_144, q144_147, q144_148, q144_149, q144_152, q144_153, q144_154, q144_155, q144_156, q144_157, q144_160, q144_161, q144_162, q144_165, q144_168, q144_169, q144_172, q144_173, q144_174, q144_175, q144_176, q144_179, q144_180, q144_181, q144_184, q144_187, q144_188, q144_191, q144_192, q144_193, q144_194, q144_195, q144_198, q144_199, q144_200, q144_201, q144_204, q144_207, q144_208, q144_211, q144_212, q144_213, q144_214, q144_215, q144_218, q144_219, q144_220, q144_221, q144_224, q144_227, q144_228, q144_231, q144_232, i9, i0, i1, i2, c1, c2, lq 97 99 (by omega) (by omega) (by omega), lq 97 102 (by omega) (by omega) (by omega), lq 97 104 (by omega) (by omega) (by omega), lq 97 117 (by omega) (by omega) (by omega), g1, eq_true z, zCall_some, Option.toList, List.cons_append, List.nil_append, zb_0, zb_1, zem, z01, z11, nI_add, ↓reduceIte, not_true_eq_false, not_false_eq_true, n0T, n1F, n11T, true_or, or_true, false_or]
    · rw [zb_t z]
      simp only [q144_0, q144_1, q144_4, q144_5, q144_6, q144_56, q144_57, q144_58, q144_61, q144_62, q144_63, q144_64, q144_67, q144_68, q144_69, q144_72, q144_75, q144_76, q144_79, q144_80, q144_81, q144_82, q144_85, q144_86, q144_87, q144_88, q144_89, q144_92, q144_95, q144_98, q144_99, q144_102, q144_103, q144_104, q144_105, q144_106, q144_109, q144_112, q144_115, q144_116, q144_117, q144_118, q144_119, q144_122, q144_123, q144_124, q144_125, q144_126, q144_129, q144_130, q144_131, q144_134, q144_135, q144_136, q144_137, q144_140, q144_141, q144_142, q144_143, q144_144, q144_147, q144_148, q144_149, q144_152, q144_153, q144_154, q144_155, q144_156, q144_157, q144_160, q144_161, q144_162, q144_165, q144_168, q144_169, q144_172, q144_173, q144_174, q144_175, q144_176, q144_179, q144_180, q144_181, q144_184, q144_187, q144_188, q144_191, q144_192, q144_193, q144_194, q144_195, q144_198, q144_199, q144_200, q144_201, q144_204, q144_207, q144_208, q144_211, q144_212, q144_213, q144_214, q144_215, q144_218, q144_219, q144_220, q144_221, q144_224, q144_227, q144_228, q144_231, q144_232, i9, i0, i1, i2, c1, c2, lq 97 99 (by omega) (by omega) (by omega), lq 97 102 (by omega) (by omega) (by omega), lq 97 104 (by omega) (by omega) (by omega), lq 97 117 (by omega) (by omega) (by omega), g1, eq_false z, zCall_some, Option.toList, List.cons_append, List.nil_append, zb_0, zb_1, zem, z01, z11, nI_add, ↓reduceIte, not_true_eq_false, not_false_eq_true, n0T, n1F, n11T, true_or, or_true, false_or]
  · have eD : dcS σ (tx p) (vlF tx tn p 0) (vlF tx tn p 1) (vlF tx tn p 2) = awS σ (nI (vlF tx tn p 0)) (nI 0) := by unfold dcS; rw [if_neg (by omega), if_neg (by omega), if_neg (by omega), if_neg (by omega), if_neg (by omega)]
    rw [eD]
    rw [hx] at c1
    obtain ⟨a', g1, g2⟩ := y_absent (sc := sc) (d := d) (f := f) (j := j) (v := nI (vlF tx tn p 0)) (b := nI 0) hR h8
    refine ⟨a', ?_, g2⟩
    by_cases z : (awS σ (nI (vlF tx tn p 0)) (nI 0)).1 < 0
    · rw [zb_f (fun q => q z)]
      simp only [q144_0, q144_1, q144_4, q144_5, q144_6, q144_56, q144_57, q144_58, q144_61, q144_62, q144_63, q144_64, q144_67, q144_68, q144_69, q144_72, q144_75, q144_76, q144_79, q144_80, q144_81, q144_82, q144_85, q144_86, q144_87, q144_88, q144_89, q144_92, q144_95, q144_98, q144_99, q144_102, q144_103, q144_104, q144_105, q144_106, q144_109, q144_112, q144_115, q144_116, q144_117, q144_118, q144_119, q144_122, q144_123, q144_124, q144_125, q144_126, q144_129, q144_130, q144_131, q144_134, q144_135, q144_136, q144_137, q144_140, q144_141, q144_142, q144_143, q144_144, q144_147, q144_148, q144_149, q144_152, q144_153, q144_154, q144_155, q144_156, q144_157, q144_160, q144_161, q144_162, q144_165, q144_168, q144_169, q144_172, q144_173, q144_174, q144_175, q144_176, q144_179, q144_180, q144_181, q144_184, q144_187, q144_188, q144_191, q144_192, q144_193, q144_194, q144_195, q144_198, q144_199, q144_200, q144_201, q144_204, q144_207, q144_208, q144_211, q144_212, q144_213, q144_214, q144_215, q144_218, q144_219, q144_220, q144_221, q144_224, q144_227, q144_228, q144_231, q144_232, i9, i0, i1, i2, c1, c2, lq 112 97 (by omega) (by omega) (by omega), lq 112 99 (by omega) (by omega) (by omega), lq 112 102 (by omega) (by omega) (by omega), lq 112 104 (by omega) (by omega) (by omega), lq 112 117 (by omega) (by omega) (by omega), g1, eq_true z, zCall_some, Option.toList, List.cons_append, List.nil_append, zb_0, zb_1, zem, z01, z11, nI_add, ↓reduceIte, not_true_eq_false, not_false_eq_true, n0T, n1F, n11T, true_or, or_true, false_or]
    · rw [zb_t z]
      simp only [q144_0, q144_1, q144_4, q144_5, q144_6, q144_56, q144_57, q144_58, q144_61, q144_62, q144_63, q144_64, q144_67, q144_68, q144_69, q144_72, q144_75, q144_76, q144_79, q144_80, q144_81, q144_82, q144_85, q144_86, q144_87, q144_88, q144_89, q144_92, q144_95, q144_98, q144_99, q144_102, q144_103, q144_104, q144_105, q144_106, q144_109, q144_112, q144_115, q144_116, q144_117, q144_118, q144_119, q144_122, q144_123, q144_124, q144_125, q144_126, q144_129, q144_130, q144_131, q144_134, q144_135, q144_136, q144_137, q144_140, q144_141, q144_142, q144_143, q144_144, q144_147, q144_148, q144_149, q144_152, q144_153, q144_154, q144_155, q144_156, q144_157, q144_160, q144_161, q144_162, q144_165, q144_168, q144_169, q144_172, q144_173, q144_174, q144_175, q144_176, q144_179, q144_180, q144_181, q144_184, q144_187, q144_188, q144_191, q144_192, q144_193, q144_194, q144_195, q144_198, q144_199, q144_200, q144_201, q144_204, q144_207, q144_208, q144_211, q144_212, q144_213, q144_214, q144_215, q144_218, q144_219, q144_220, q144_221, q144_224, q144_227, q144_228, q144_231, q144_232, i9, i0, i1, i2, c1, c2, lq 112 97 (by omega) (by omega) (by omega), lq 112 99 (by omega) (by omega) (by omega), lq 112 102 (by omega) (by omega) (by omega), lq 112 104 (by omega) (by omega) (by omega), lq 112 117 (by omega) (by omega) (by omega), g1, eq_false z, zCall_some, Option.toList, List.cons_append, List.nil_append, zb_0, zb_1, zem, z01, z11, nI_add, ↓reduceIte, not_true_eq_false, not_false_eq_true, n0T, n1F, n11T, true_or, or_true, false_or]
/-- what reading may change of the reference -/
def MFR (f f' : zF) (a a' : zA) : Prop := (∀ q, q ≠ 85 → f' q = f q) ∧ (∀ q, q ≠ 19 → q ≠ 20 → q ≠ 21 → f' 85 q = f 85 q) ∧ ∀ q, (q < 99 ∨ 102 < q) → a' q = a q
theorem MFR.rf {f : zF} {a : zA} : MFR f f a a := ⟨fun _ _ => rfl, fun _ _ _ _ => rfl, fun _ _ => rfl⟩
theorem MFR.tr {f f1 f2 : zF} {a a1 a2 : zA} (h : MFR f f1 a a1) (g : MFR f1 f2 a1 a2) : MFR f f2 a a2 := ⟨fun q hq => (g.1 q hq).trans (h.1 q hq), fun q h1 h2 h3 => (g.2.1 q h1 h2 h3).trans (h.2.1 q h1 h2 h3), fun q hq => (g.2.2 q hq).trans (h.2.2 q hq)⟩
theorem MFK.r {k : Nat} {f f' : zF} {a a' : zA} (h : MFK k f f' a a') : MFR f f' a a' := ⟨h.1, h.2.1, h.2.2.1⟩
theorem MFR.x {tx : Nat → Nat} {tn : Nat} {f f' : zF} {a a' : zA} (h : MFR f f' a a') (hT : MX tx tn f a) : MX tx tn f' a' := hT.up (h.2.1 18 (by omega) (by omega) (by omega)) (h.2.2 98 (by omega))
theorem MCL.fr {tx : Nat → Nat} {tn k i p : Nat} {f f' : zF} {a a' : zA} (h : MCL tx tn i p a) (g : MFK k f f' a a') (hi : i < 12) (hk : i ≠ k) : MCL tx tn i p a' := by
  unfold MCL at h ⊢
  rw [g.2.2.2 99 i hi hk, g.2.2.2 100 i hi hk, g.2.2.2 101 i hi hk, g.2.2.2 102 i hi hk]
  exact h
theorem mr_in {sc : Int32 × (Int32 → Int32)} {d tn : Nat} {j : zJ} {tx : Nat → Nat} (hV : VX tx tn) : ∀ (m i : Nat) (f0 f : zF) (a0 a : zA), i + m = 11 → MX tx tn f a → ClR tx tn i (psN tx tn i) f0 f a0 a → psN tx tn i ≤ tn → (∀ q, q < i → MCL tx tn q (psN tx tn q) a ∧ ckB tx tn (psN tx tn q) = true) →
    ∃ (f' : zF) (a' : zA), rn sc (cf sc (d + 4)) 145 19 [.ref 85, .null, .null] [] f a j = rn sc (cf sc (d + 4)) 145 84 [.ref 85, .null, .null] [] f' a' j ∧ ((prF tx tn (m + 1) i).1 = 0 → f' 85 20 = nI 0 ∧ f' 85 21 = nI (prF tx tn (m + 1) i).2 ∧ (prF tx tn (m + 1) i).2 ≤ 12 ∧ ∀ q, q < (prF tx tn (m + 1) i).2 → MCL tx tn q (psN tx tn q) a' ∧ ckB tx tn (psN tx tn q) = true) ∧ ((prF tx tn (m + 1) i).1 ≠ 0 → f' 85 20 = nI 1 ∧ f' 85 19 = nI (prF tx tn (m + 1) i).2) ∧ MFR f f' a a' := by
  have h100 := hV.1
  intro m
  induction m with
  | zero =>
    intro i f0 f a0 a hi hT hC hp hQ
    have h3 := nmF_le (tx (psN tx tn i))
    have hE : clE tx tn (psN tx tn i) ≤ 150 := by
      unfold clE
      split <;> omega
    obtain ⟨hC1, hC2, hC3⟩ := hC
    rw [prF_s]
    by_cases hck : ckB tx tn (psN tx tn i) = true
    · rw [if_pos hck]
      obtain ⟨k1, k2, k3, k4⟩ := hC1 hck
      have hH := m_here (sc := sc) (d := d + 3) (f := f) (a := a) (j := j) hT hV k2 (by omega)
      have e18 := hT.1
      by_cases hEn : tn ≤ clE tx tn (psN tx tn i)
      · rw [if_pos hEn]
        have c1 : nI tn ≤ nI (clE tx tn (psN tx tn i)) := nI_le hEn (by omega)
        have c2 : ¬ hrF tx tn (clE tx tn (psN tx tn i)) = nI 59 := by
          unfold hrF
          rw [if_neg (by omega)]
          decide
        refine ⟨f, a, ?_, fun _ => ⟨k1, k3, by dsimp only; omega, fun q hq => ?_⟩, fun q => absurd rfl q, MFR.rf⟩
        · rw [q145_19]
          simp only [q145_0, q145_1, q145_2, q145_5, q145_6, q145_7, q145_10, q145_11, q145_12, q145_15, q145_16, q145_20, q145_23, q145_26, q145_27, q145_30, q145_32, q145_35, q145_36, q145_39, q145_41, q145_44, q145_45, q145_46, q145_49, q145_50, q145_51, q145_54, q145_55, q145_58, q145_61, q145_62, q145_65, q145_68, q145_69, q145_72, q145_73, q145_76, q145_79, q145_80, q145_81, q145_85, q145_86, q145_89, q145_90, q145_93, q145_96, q145_98, q145_99, q145_102, q145_103, q145_104, q145_105, q145_106, q145_107, q145_108, q145_109, q145_110, q145_113, q145_116, q145_117, q145_118, q145_121, q145_124, q145_127, q145_130, q145_133, q145_134, k1, hH, c2, k2, e18, c1, zCall_some, Option.toList, List.cons_append, List.nil_append, zb_0, zb_1, zem, z01, z11, nI_add, ↓reduceIte, not_true_eq_false, not_false_eq_true, n0T, n1F, n11T, true_or, or_true, false_or]
        · by_cases e : q = i
          · rw [e]; exact ⟨k4, hck⟩
          · exact hQ q (by dsimp only at hq; omega)
      · rw [if_neg hEn]
        have hq9 : ¬ (tx (clE tx tn (psN tx tn i)) = 59 ∧ i + 1 ≠ 12) := fun q => q.2 (by omega)
        rw [if_neg hq9]
        have c1 : ¬ nI tn ≤ nI (clE tx tn (psN tx tn i)) := nI_ge (by omega) (by omega)
        have c3 : nI 12 ≤ nI (i + 1) := nI_le (by omega) (by omega)
        refine ⟨zuF f 85 20 (nI 1), a, ?_, fun q => absurd (show (1 : Nat) = 0 from q) (by omega), fun _ => ⟨zuF_eq, by rw [zuF_ni (by omega)]; exact k2⟩, ⟨fun q hq => zuF_nk hq, fun q h1 h2 h3 => zuF_ni h2, fun _ _ => rfl⟩⟩
        rw [q145_19]
        by_cases c2 : hrF tx tn (clE tx tn (psN tx tn i)) = nI 59
        · simp only [q145_0, q145_1, q145_2, q145_5, q145_6, q145_7, q145_10, q145_11, q145_12, q145_15, q145_16, q145_20, q145_23, q145_26, q145_27, q145_30, q145_32, q145_35, q145_36, q145_39, q145_41, q145_44, q145_45, q145_46, q145_49, q145_50, q145_51, q145_54, q145_55, q145_58, q145_61, q145_62, q145_65, q145_68, q145_69, q145_72, q145_73, q145_76, q145_79, q145_80, q145_81, q145_85, q145_86, q145_89, q145_90, q145_93, q145_96, q145_98, q145_99, q145_102, q145_103, q145_104, q145_105, q145_106, q145_107, q145_108, q145_109, q145_110, q145_113, q145_116, q145_117, q145_118, q145_121, q145_124, q145_127, q145_130, q145_133, q145_134, k1, hH, c2, k3, c3, k2, e18, c1, zCall_some, Option.toList, List.cons_append, List.nil_append, zb_0, zb_1, zem, z01, z11, nI_add, ↓reduceIte, not_true_eq_false, not_false_eq_true, n0T, n1F, n11T, true_or, or_true, false_or]
        · simp only [q145_0, q145_1, q145_2, q145_5, q145_6, q145_7, q145_10, q145_11, q145_12, q145_15, q145_16, q145_20, q145_23, q145_26, q145_27, q145_30, q145_32, q145_35, q145_36, q145_39, q145_41, q145_44, q145_45, q145_46, q145_49, q145_50, q145_51, q145_54, q145_55, q145_58, q145_61, q145_62, q145_65, q145_68, q145_69, q145_72, q145_73, q145_76, q145_79, q145_80, q145_81, q145_85, q145_86, q145_89, q145_90, q145_93, q145_96, q145_98, q145_99, q145_102, q145_103, q145_104, q145_105, q145_106, q145_107, q145_108, q145_109, q145_110, q145_113, q145_116, q145_117, q145_118, q145_121, q145_124, q145_127, q145_130, q145_133, q145_134, k1, hH, c2, k2, e18, c1, zCall_some, Option.toList, List.cons_append, List.nil_append, zb_0, zb_1, zem, z01, z11, nI_add, ↓reduceIte, not_true_eq_false, not_false_eq_true, n0T, n1F, n11T, true_or, or_true, false_or]
    · rw [if_neg hck]
      obtain ⟨k1, k2⟩ := hC2 hck
      refine ⟨f, a, ?_, fun q => absurd (show (1 : Nat) = 0 from q) (by omega), fun _ => ⟨k1, k2⟩, MFR.rf⟩
      rw [q145_19]
      simp only [q145_0, q145_1, q145_2, q145_5, q145_6, q145_7, q145_10, q145_11, q145_12, q145_15, q145_16, q145_20, q145_23, q145_26, q145_27, q145_30, q145_32, q145_35, q145_36, q145_39, q145_41, q145_44, q145_45, q145_46, q145_49, q145_50, q145_51, q145_54, q145_55, q145_58, q145_61, q145_62, q145_65, q145_68, q145_69, q145_72, q145_73, q145_76, q145_79, q145_80, q145_81, q145_85, q145_86, q145_89, q145_90, q145_93, q145_96, q145_98, q145_99, q145_102, q145_103, q145_104, q145_105, q145_106, q145_107, q145_108, q145_109, q145_110, q145_113, q145_116, q145_117, q145_118, q145_121, q145_124, q145_127, q145_130, q145_133, q145_134, k1, zCall_some, Option.toList, List.cons_append, List.nil_append, zb_0, zb_1, zem, z01, z11, nI_add, ↓reduceIte, not_true_eq_false, not_false_eq_true, n0T, n1F, n11T, true_or, or_true, false_or]
  | succ m ih =>
    intro i f0 f a0 a hi hT hC hp hQ
    have h3 := nmF_le (tx (psN tx tn i))
    have hE : clE tx tn (psN tx tn i) ≤ 150 := by
      unfold clE
      split <;> omega
    obtain ⟨hC1, hC2, hC3⟩ := hC
    rw [prF_s]
    by_cases hck : ckB tx tn (psN tx tn i) = true
    · rw [if_pos hck]
      obtain ⟨k1, k2, k3, k4⟩ := hC1 hck
      have hQ1 : ∀ q, q < i + 1 → MCL tx tn q (psN tx tn q) a ∧ ckB tx tn (psN tx tn q) = true := fun q hq => by
        by_cases e : q = i
        · rw [e]; exact ⟨k4, hck⟩
        · exact hQ q (by omega)
      have hH := m_here (sc := sc) (d := d + 3) (f := f) (a := a) (j := j) hT hV k2 (by omega)
      have e18 := hT.1
      by_cases hEn : tn ≤ clE tx tn (psN tx tn i)
      · rw [if_pos hEn]
        have c1 : nI tn ≤ nI (clE tx tn (psN tx tn i)) := nI_le hEn (by omega)
        have c2 : ¬ hrF tx tn (clE tx tn (psN tx tn i)) = nI 59 := by
          unfold hrF
          rw [if_neg (by omega)]
          decide
        refine ⟨f, a, ?_, fun _ => ⟨k1, k3, by dsimp only; omega, hQ1⟩, fun q => absurd rfl q, MFR.rf⟩
        rw [q145_19]
        simp only [q145_0, q145_1, q145_2, q145_5, q145_6, q145_7, q145_10, q145_11, q145_12, q145_15, q145_16, q145_20, q145_23, q145_26, q145_27, q145_30, q145_32, q145_35, q145_36, q145_39, q145_41, q145_44, q145_45, q145_46, q145_49, q145_50, q145_51, q145_54, q145_55, q145_58, q145_61, q145_62, q145_65, q145_68, q145_69, q145_72, q145_73, q145_76, q145_79, q145_80, q145_81, q145_85, q145_86, q145_89, q145_90, q145_93, q145_96, q145_98, q145_99, q145_102, q145_103, q145_104, q145_105, q145_106, q145_107, q145_108, q145_109, q145_110, q145_113, q145_116, q145_117, q145_118, q145_121, q145_124, q145_127, q145_130, q145_133, q145_134, k1, hH, c2, k2, e18, c1, zCall_some, Option.toList, List.cons_append, List.nil_append, zb_0, zb_1, zem, z01, z11, nI_add, ↓reduceIte, not_true_eq_false, not_false_eq_true, n0T, n1F, n11T, true_or, or_true, false_or]
      · rw [if_neg hEn]
        have c1 : ¬ nI tn ≤ nI (clE tx tn (psN tx tn i)) := nI_ge (by omega) (by omega)
        have h128 := hV.2 (clE tx tn (psN tx tn i)) (by omega)
        have hr9 : hrF tx tn (clE tx tn (psN tx tn i)) = nI (tx (clE tx tn (psN tx tn i))) := if_pos (by omega)
        have q59 : (nI (tx (clE tx tn (psN tx tn i))) = nI 59) = (tx (clE tx tn (psN tx tn i)) = 59) := propext (nI_eq (by omega) (by omega))
        by_cases h59 : tx (clE tx tn (psN tx tn i)) = 59
        · have hq9 : tx (clE tx tn (psN tx tn i)) = 59 ∧ i + 1 ≠ 12 := ⟨h59, by omega⟩
          rw [if_pos hq9]
          have c3 : ¬ nI 12 ≤ nI (i + 1) := nI_ge (by omega) (by omega)
          have hF1 : MFR f (zuF f 85 19 (nI (clE tx tn (psN tx tn i) + 1))) a a := ⟨fun q hq => zuF_nk hq, fun q h1 h2 h3 => zuF_ni h1, fun _ _ => rfl⟩
          have hps : psN tx tn (i + 1) = clE tx tn (psN tx tn i) + 1 := rfl
          obtain ⟨f2, a2, r1, r2⟩ := m_clause (sc := sc) (d := d) (f := zuF f 85 19 (nI (clE tx tn (psN tx tn i) + 1))) (a := a) (j := j) (p := psN tx tn (i + 1)) (k := i + 1) (hF1.x hT) hV (by rw [hps]; omega) (by omega) (by rw [hps]; exact zuF_eq) (by rw [zuF_ni (by omega)]; exact k1) (by rw [zuF_ni (by omega)]; exact k3)
          have hK := r2.2.2
          obtain ⟨f', a', g1, g2, g3, g4⟩ := ih (i + 1) _ f2 _ a2 (by omega) (hK.r.x (hF1.x hT)) r2 (by rw [hps]; omega) (fun q hq => ⟨(hQ1 q hq).1.fr hK (by omega) (by omega), (hQ1 q hq).2⟩)
          refine ⟨f', a', ?_, g2, g3, (hF1.tr hK.r).tr g4⟩
          rw [← g1, q145_19]
          simp only [q145_0, q145_1, q145_2, q145_5, q145_6, q145_7, q145_10, q145_11, q145_12, q145_15, q145_16, q145_20, q145_23, q145_26, q145_27, q145_30, q145_32, q145_35, q145_36, q145_39, q145_41, q145_44, q145_45, q145_46, q145_49, q145_50, q145_51, q145_54, q145_55, q145_58, q145_62, q145_65, q145_68, q145_69, q145_72, q145_73, q145_76, q145_79, q145_80, q145_81, q145_85, q145_86, q145_89, q145_90, q145_93, q145_96, q145_98, q145_99, q145_102, q145_103, q145_104, q145_105, q145_106, q145_107, q145_108, q145_109, q145_110, q145_113, q145_116, q145_117, q145_118, q145_121, q145_124, q145_127, q145_130, q145_133, q145_134, k1, hH, hr9, q59, eq_true h59, k3, c3, k2, r1, zCall_some, Option.toList, List.cons_append, List.nil_append, zb_0, zb_1, zem, z01, z11, nI_add, ↓reduceIte, not_true_eq_false, not_false_eq_true, n0T, n1F, n11T, true_or, or_true, false_or]
        · have hq9 : ¬ (tx (clE tx tn (psN tx tn i)) = 59 ∧ i + 1 ≠ 12) := fun q => h59 q.1
          rw [if_neg hq9]
          refine ⟨zuF f 85 20 (nI 1), a, ?_, fun q => absurd (show (1 : Nat) = 0 from q) (by omega), fun _ => ⟨zuF_eq, by rw [zuF_ni (by omega)]; exact k2⟩, ⟨fun q hq => zuF_nk hq, fun q h1 h2 h3 => zuF_ni h2, fun _ _ => rfl⟩⟩
          rw [q145_19]
          simp only [q145_0, q145_1, q145_2, q145_5, q145_6, q145_7, q145_10, q145_11, q145_12, q145_15, q145_16, q145_20, q145_23, q145_26, q145_27, q145_30, q145_32, q145_35, q145_36, q145_39, q145_41, q145_44, q145_45, q145_46, q145_49, q145_50, q145_51, q145_54, q145_55, q145_58, q145_61, q145_62, q145_65, q145_68, q145_69, q145_72, q145_73, q145_76, q145_79, q145_80, q145_81, q145_85, q145_86, q145_89, q145_90, q145_93, q145_96, q145_98, q145_99, q145_102, q145_103, q145_104, q145_105, q145_106, q145_107, q145_108, q145_109, q145_110, q145_113, q145_116, q145_117, q145_118, q145_121, q145_124, q145_127, q145_130, q145_133, q145_134, k1, hH, hr9, q59, eq_false h59, k2, e18, c1, zCall_some, Option.toList, List.cons_append, List.nil_append, zb_0, zb_1, zem, z01, z11, nI_add, ↓reduceIte, not_true_eq_false, not_false_eq_true, n0T, n1F, n11T, true_or, or_true, false_or]
    · rw [if_neg hck]
      obtain ⟨k1, k2⟩ := hC2 hck
      refine ⟨f, a, ?_, fun q => absurd (show (1 : Nat) = 0 from q) (by omega), fun _ => ⟨k1, k2⟩, MFR.rf⟩
      rw [q145_19]
      simp only [q145_0, q145_1, q145_2, q145_5, q145_6, q145_7, q145_10, q145_11, q145_12, q145_15, q145_16, q145_20, q145_23, q145_26, q145_27, q145_30, q145_32, q145_35, q145_36, q145_39, q145_41, q145_44, q145_45, q145_46, q145_49, q145_50, q145_51, q145_54, q145_55, q145_58, q145_61, q145_62, q145_65, q145_68, q145_69, q145_72, q145_73, q145_76, q145_79, q145_80, q145_81, q145_85, q145_86, q145_89, q145_90, q145_93, q145_96, q145_98, q145_99, q145_102, q145_103, q145_104, q145_105, q145_106, q145_107, q145_108, q145_109, q145_110, q145_113, q145_116, q145_117, q145_118, q145_121, q145_124, q145_127, q145_130, q145_133, q145_134, k1, zCall_some, Option.toList, List.cons_append, List.nil_append, zb_0, zb_1, zem, z01, z11, nI_add, ↓reduceIte, not_true_eq_false, not_false_eq_true, n0T, n1F, n11T, true_or, or_true, false_or]
theorem dn_8 {tx : Nat → Nat} {tn : Nat} {σ : Nat → Nat} (h : σ 0 ≤ 8) : ∀ i, (dnF tx tn σ i).2 0 ≤ 8
  | 0 => h
  | i + 1 => by rw [dnF_s]; exact dc_8 (dn_8 h i)
theorem y_read {sc : Int32 × (Int32 → Int32)} {f : zF} {a : zA} {j : zJ} {d tn : Nat} {tx : Nat → Nat} {σ : Nat → Nat} (hR : MR σ a) (h8 : σ 0 ≤ 8) (hT : MX tx tn f a) (hX : VX tx tn) :
    ∃ (f' : zF) (a' : zA), cf sc (d + 5) 145 [.ref 85] f a j = some (some (.int (rdS tx tn σ).1), f', a', j) ∧ MR (rdS tx tn σ).2 a' ∧ f' 85 18 = nI 0 ∧ (∀ q, q ≠ 85 → f' q = f q) ∧ (∀ q, q ≠ 18 → q ≠ 19 → q ≠ 20 → q ≠ 21 → f' 85 q = f 85 q) ∧ ∀ q, q ≠ 86 → (q < 99 ∨ 102 < q) → a' q = a q := by
  have hF0 : MFR f (zuF (zuF (zuF f 85 19 (nI 0)) 85 20 (nI 0)) 85 21 (nI 0)) a a := ⟨fun q hq => by rw [zuF_nk hq, zuF_nk hq, zuF_nk hq], fun q h1 h2 h3 => by rw [zuF_ni h3, zuF_ni h2, zuF_ni h1], fun _ _ => rfl⟩
  obtain ⟨f1, a1, r1, r2⟩ := m_clause (sc := sc) (d := d) (f := zuF (zuF (zuF f 85 19 (nI 0)) 85 20 (nI 0)) 85 21 (nI 0)) (a := a) (j := j) (p := 0) (k := 0) (hF0.x hT) hX (by omega) (by omega) (by rw [zuF_ni (by omega), zuF_ni (by omega)]; exact zuF_eq) (by rw [zuF_ni (by omega)]; exact zuF_eq) zuF_eq
  have hK := r2.2.2.r
  obtain ⟨f2, a2, s1, s2, s3, s4⟩ := mr_in (sc := sc) (d := d) (j := j) hX 11 0 _ f1 _ a1 (by omega) (hK.x (hF0.x hT)) r2 (Nat.zero_le _) (fun q hq => by omega)
  have hF2 := (hF0.tr hK).tr s4
  have hR2 : MR σ a2 := hR.of (hF2.2.2 86 (by omega))
  rw [en145]
  have hbeg : rn sc (cf sc (d + 4)) 145 0 [.ref 85, .null, .null] [] f a j = rn sc (cf sc (d + 4)) 145 84 [.ref 85, .null, .null] [] f2 a2 j := by
    simp only [q145_0, q145_1, q145_2, q145_5, q145_6, q145_7, q145_10, q145_11, q145_12, q145_15, q145_16, r1, zCall_some, Option.toList, List.cons_append, List.nil_append, zb_0, zb_1, zem, z01, z11, nI_add, ↓reduceIte, not_true_eq_false, not_false_eq_true, n0T, n1F, n11T, true_or, or_true, false_or]
    exact s1
  rw [hbeg]
  unfold rdS
  by_cases hp : (prF tx tn 12 0).1 = 0
  · rw [if_pos hp]
    obtain ⟨g1, g2, g3, g4⟩ := s2 hp
    have g3 : (prF tx tn 12 0).2 ≤ 12 := g3
    have e20 : zuF f2 85 18 (nI 0) 85 20 = nI 0 := by rw [zuF_ni (by omega)]; exact g1
    have e21 : zuF f2 85 18 (nI 0) 85 21 = nI (prF tx tn 12 0).2 := by rw [zuF_ni (by omega)]; exact g2
    have key := zLoopP (n := (prF tx tn 12 0).2) (g := fun s : (Nat × zA) => rn sc (cf sc (d + 4)) 145 108 [.ref 85, .int (nI (dnF tx tn σ s.1).1), .int (nI s.1)] [] (zuF f2 85 18 (nI 0)) s.2 j) (P := fun i s => s.1 = i ∧ MR (dnF tx tn σ i).2 s.2 ∧ ∀ k, k ≠ 86 → s.2 k = a2 k) (by
      intro i s hi hP
      obtain ⟨i', a3⟩ := s
      obtain ⟨rfl, hM, hk⟩ := hP
      dsimp only at hM hk hi
      obtain ⟨k1, k2⟩ := g4 i' hi
      have k3 := of_decide_eq_true k2
      have hC : MCL tx tn i' (psN tx tn i') a3 := by
        unfold MCL at k1 ⊢
        rw [hk 99 (by omega), hk 100 (by omega), hk 101 (by omega), hk 102 (by omega)]
        exact k1
      obtain ⟨a4, u1, u2, u3⟩ := m_isDone (sc := sc) (d := d) (f := zuF f2 85 18 (nI 0)) (j := j) (by omega) hC k3.2.1 (ck_9 k2) hM (dn_8 h8 i')
      refine ⟨(i' + 1, a4), ⟨rfl, by rw [dnF_s]; exact u2, fun k q => (u3 k q).trans (hk k q)⟩, ?_⟩
      have c1 : ¬ nI (prF tx tn 12 0).2 ≤ nI i' := nI_ge hi (by omega)
      dsimp only
      rw [q145_108, dnF_s]
      by_cases z : (dcS (dnF tx tn σ i').2 (tx (psN tx tn i')) (vlF tx tn (psN tx tn i') 0) (vlF tx tn (psN tx tn i') 1) (vlF tx tn (psN tx tn i') 2)).1 < 0
      · simp only [q145_0, q145_1, q145_2, q145_5, q145_6, q145_7, q145_10, q145_11, q145_12, q145_15, q145_16, q145_19, q145_20, q145_23, q145_26, q145_27, q145_30, q145_32, q145_35, q145_36, q145_39, q145_41, q145_44, q145_45, q145_46, q145_49, q145_50, q145_51, q145_54, q145_55, q145_58, q145_61, q145_62, q145_65, q145_68, q145_69, q145_72, q145_73, q145_76, q145_79, q145_80, q145_81, q145_84, q145_85, q145_86, q145_89, q145_90, q145_93, q145_96, q145_98, q145_99, q145_102, q145_103, q145_104, q145_105, q145_106, q145_107, q145_109, q145_110, q145_113, q145_116, q145_117, q145_118, q145_121, q145_124, q145_127, q145_130, q145_133, q145_134, e21, c1, u1, eq_true z, zCall_some, Option.toList, List.cons_append, List.nil_append, zb_0, zb_1, zem, z01, z11, nI_add, ↓reduceIte, not_true_eq_false, not_false_eq_true, n0T, n1F, n11T, true_or, or_true, false_or]
      · simp only [q145_0, q145_1, q145_2, q145_5, q145_6, q145_7, q145_10, q145_11, q145_12, q145_15, q145_16, q145_19, q145_20, q145_23, q145_26, q145_27, q145_30, q145_32, q145_35, q145_36, q145_39, q145_41, q145_44, q145_45, q145_46, q145_49, q145_50, q145_51, q145_54, q145_55, q145_58, q145_61, q145_62, q145_65, q145_68, q145_69, q145_72, q145_73, q145_76, q145_79, q145_80, q145_81, q145_84, q145_85, q145_86, q145_89, q145_90, q145_93, q145_96, q145_98, q145_99, q145_102, q145_103, q145_104, q145_105, q145_106, q145_107, q145_109, q145_110, q145_113, q145_116, q145_117, q145_118, q145_121, q145_124, q145_127, q145_130, q145_133, q145_134, e21, c1, u1, eq_false z, zCall_some, Option.toList, List.cons_append, List.nil_append, zb_0, zb_1, zem, z01, z11, nI_add, ↓reduceIte, not_true_eq_false, not_false_eq_true, n0T, n1F, n11T, true_or, or_true, false_or]) (0, a2) ⟨rfl, hR2, fun _ _ => rfl⟩
    obtain ⟨⟨i, a3⟩, ⟨hi, hM, hk⟩, e⟩ := key
    dsimp only at hM hk hi e
    rw [hi] at e
    refine ⟨zuF f2 85 18 (nI 0), a3, ?_, hM, zuF_eq, fun q hq => by rw [zuF_nk hq]; exact hF2.1 q hq, fun q h1 h2 h3 h4 => by rw [zuF_ni h1]; exact hF2.2.1 q h2 h3 h4, fun q h1 h2 => by rw [hk q h1]; exact hF2.2.2 q h2⟩
    have c1 : nI (prF tx tn 12 0).2 ≤ nI (prF tx tn 12 0).2 := nI_le (Nat.le_refl _) (by omega)
    simp only [q145_84, q145_85, q145_86, q145_89, q145_90, q145_93, q145_104, q145_105, q145_106, q145_107, e20, zCall_some, Option.toList, List.cons_append, List.nil_append, zb_0, zb_1, zem, z01, z11, nI_add, ↓reduceIte, not_true_eq_false, not_false_eq_true, n0T, n1F, n11T, true_or, or_true, false_or]
    refine Eq.trans (show _ = _ from e) ?_
    simp only [q145_108, q145_109, q145_110, q145_113, q145_133, q145_134, e21, c1, zCall_some, Option.toList, List.cons_append, List.nil_append, zb_0, zb_1, zem, z01, z11, nI_add, ↓reduceIte, not_true_eq_false, not_false_eq_true, n0T, n1F, n11T, true_or, or_true, false_or]
  · rw [if_neg hp]
    obtain ⟨g1, g2⟩ := s3 hp
    have e20 : zuF f2 85 18 (nI 0) 85 20 = nI 1 := by rw [zuF_ni (by omega)]; exact g1
    have e19 : zuF f2 85 18 (nI 0) 85 19 = nI (prF tx tn 12 0).2 := by rw [zuF_ni (by omega)]; exact g2
    refine ⟨zuF f2 85 18 (nI 0), a2, ?_, hR2, zuF_eq, fun q hq => by rw [zuF_nk hq]; exact hF2.1 q hq, fun q h1 h2 h3 h4 => by rw [zuF_ni h1]; exact hF2.2.1 q h2 h3 h4, fun q _ h2 => hF2.2.2 q h2⟩
    simp only [q145_84, q145_85, q145_86, q145_89, q145_90, q145_93, q145_96, q145_98, q145_99, q145_102, q145_103, e20, e19, zCall_some, Option.toList, List.cons_append, List.nil_append, zb_0, zb_1, zem, z01, z11, nI_add, ↓reduceIte, not_true_eq_false, not_false_eq_true, n0T, n1F, n11T, true_or, or_true, false_or]
