/-! ===== THE REFERENCE: what is small ===== -/
/-- the reference's row holds σ -/
def MR (σ : Nat → Nat) (a : zA) : Prop := ∀ i, i < 140 → a 86 (nI i) = nI (σ i)
/-- what a call of the reference may change, but for read, feed, image and tapes -/
def MFW (f f' : zF) (a a' : zA) : Prop := (∀ k, k ≠ 85 → f' k = f k) ∧ (∀ i, i ≠ 12 → i ≠ 13 → i ≠ 14 → f' 85 i = f 85 i) ∧ ∀ k, (k < 86 ∨ k = 87 ∨ k = 98 ∨ 103 < k) → a' k = a k
theorem MFW.rf {f : zF} {a : zA} : MFW f f a a := ⟨fun _ _ => rfl, fun _ _ _ _ => rfl, fun _ _ => rfl⟩
theorem MFW.tr {f f1 f2 : zF} {a a1 a2 : zA} (h : MFW f f1 a a1) (g : MFW f1 f2 a1 a2) : MFW f f2 a a2 := ⟨fun k hk => (g.1 k hk).trans (h.1 k hk), fun i h1 h2 h3 => (g.2.1 i h1 h2 h3).trans (h.2.1 i h1 h2 h3), fun k hk => (g.2.2 k hk).trans (h.2.2 k hk)⟩
theorem MFW.a {f : zF} {a a' : zA} (h : ∀ k, (k < 86 ∨ k = 87 ∨ k = 98 ∨ 103 < k) → a' k = a k) : MFW f f a a' := ⟨fun _ _ => rfl, fun _ _ _ _ => rfl, h⟩
theorem MR.of {σ : Nat → Nat} {a a' : zA} (h : MR σ a) (e : a' 86 = a 86) : MR σ a' := fun i hi => by rw [e]; exact h i hi
theorem MR.ext {σ τ : Nat → Nat} {a : zA} (h : MR σ a) (e : ∀ i, i < 140 → τ i = σ i) : MR τ a := fun i hi => by rw [e i hi]; exact h i hi
theorem MR.set {σ : Nat → Nat} {a : zA} {p x : Nat} (h : MR σ a) (hp : p < 140) : MR (zup σ p x) (zuA a 86 (nI p) (nI x)) := by
  intro i hi
  by_cases e : i = p
  · rw [e, zup_eq, zuA_eq]
  · rw [zup_ne e, zuA_ni (nI_ne (by omega) (by omega) e)]
    exact h i hi
theorem m_in {sc : Int32 × (Int32 → Int32)} {f : zF} {a : zA} {j : zJ} {d : Nat} {x lo hi : Int64} : cf sc (d + 1) 107 [.long x, .long lo, .long hi] f a j = some (some (.int (zb (¬ x < lo ∧ ¬ hi < x))), f, a, j) := by
  rw [en107]
  simp only [q107_0, q107_1, q107_2, q107_3, q107_6, q107_7, q107_9, q107_10, q107_13, q107_14, q107_17, q107_18, lg_cmp_lt, lg_cmp_gt, zCall_some, Option.toList, List.cons_append, List.nil_append, zb_0, zb_1, zem, z01, z11, nI_add, ↓reduceIte, not_true_eq_false, not_false_eq_true, n0T, n1F, n11T, true_or, or_true, false_or]
  unfold zb
  by_cases h1 : x < lo <;> by_cases h2 : hi < x <;> simp [h1, h2]
theorem inB {v : Int32} {l h : Int64} {lo hi : Nat} (hl : l.toInt = (lo : Int)) (hh : h.toInt = (hi : Int)) (h1 : lo < 2 ^ 31) (h2 : hi < 2 ^ 31) : (¬ v.toInt64 < l ∧ ¬ h < v.toInt64) ↔ zBtw v lo hi := by
  unfold zBtw
  rw [Int64.lt_iff_toInt_lt, Int64.lt_iff_toInt_lt, Int32.toInt_toInt64, hl, hh, Int32.lt_iff_toInt_lt, Int32.lt_iff_toInt_lt, nI_toInt h1, nI_toInt h2]
theorem m_inB {sc : Int32 × (Int32 → Int32)} {f : zF} {a : zA} {j : zJ} {d : Nat} {v : Int32} {l h : Int64} (lo hi : Nat) (hl : l.toInt = (lo : Int)) (hh : h.toInt = (hi : Int)) (h1 : lo < 2 ^ 31) (h2 : hi < 2 ^ 31) : cf sc (d + 1) 107 [.long v.toInt64, .long l, .long h] f a j = some (some (.int (zb (zBtw v lo hi))), f, a, j) := by
  rw [m_in, zb_iff (inB hl hh h1 h2)]
theorem in03 {sc : Int32 × (Int32 → Int32)} {f : zF} {a : zA} {j : zJ} {d : Nat} {v : Int32} : cf sc (d + 1) 107 [.long v.toInt64, .long 0, .long 3] f a j = some (some (.int (zb (zBtw v 0 3))), f, a, j) := m_inB 0 3 rfl rfl (by omega) (by omega)
theorem in19 {sc : Int32 × (Int32 → Int32)} {f : zF} {a : zA} {j : zJ} {d : Nat} {v : Int32} : cf sc (d + 1) 107 [.long v.toInt64, .long 1, .long 9] f a j = some (some (.int (zb (zBtw v 1 9))), f, a, j) := m_inB 1 9 rfl rfl (by omega) (by omega)
theorem in01 {sc : Int32 × (Int32 → Int32)} {f : zF} {a : zA} {j : zJ} {d : Nat} {v : Int32} : cf sc (d + 1) 107 [.long v.toInt64, .long 0, .long 1] f a j = some (some (.int (zb (zBtw v 0 1))), f, a, j) := m_inB 0 1 rfl rfl (by omega) (by omega)
theorem in09 {sc : Int32 × (Int32 → Int32)} {f : zF} {a : zA} {j : zJ} {d : Nat} {v : Int32} : cf sc (d + 1) 107 [.long v.toInt64, .long 0, .long 9] f a j = some (some (.int (zb (zBtw v 0 9))), f, a, j) := m_inB 0 9 rfl rfl (by omega) (by omega)
theorem in025 {sc : Int32 × (Int32 → Int32)} {f : zF} {a : zA} {j : zJ} {d : Nat} {v : Int32} : cf sc (d + 1) 107 [.long v.toInt64, .long 0, .long 25] f a j = some (some (.int (zb (zBtw v 0 25))), f, a, j) := m_inB 0 25 rfl rfl (by omega) (by omega)
theorem in02 {sc : Int32 × (Int32 → Int32)} {f : zF} {a : zA} {j : zJ} {d : Nat} {v : Int32} : cf sc (d + 1) 107 [.long v.toInt64, .long 0, .long 2] f a j = some (some (.int (zb (zBtw v 0 2))), f, a, j) := m_inB 0 2 rfl rfl (by omega) (by omega)
theorem in896 {sc : Int32 × (Int32 → Int32)} {f : zF} {a : zA} {j : zJ} {d : Nat} {v : Int32} : cf sc (d + 1) 107 [.long v.toInt64, .long 8, .long 96] f a j = some (some (.int (zb (zBtw v 8 96))), f, a, j) := m_inB 8 96 rfl rfl (by omega) (by omega)
theorem in052 {sc : Int32 × (Int32 → Int32)} {f : zF} {a : zA} {j : zJ} {d : Nat} {v : Int32} : cf sc (d + 1) 107 [.long v.toInt64, .long 0, .long 52] f a j = some (some (.int (zb (zBtw v 0 52))), f, a, j) := m_inB 0 52 rfl rfl (by omega) (by omega)
theorem in0127 {sc : Int32 × (Int32 → Int32)} {f : zF} {a : zA} {j : zJ} {d : Nat} {v : Int32} : cf sc (d + 1) 107 [.long v.toInt64, .long 0, .long 127] f a j = some (some (.int (zb (zBtw v 0 127))), f, a, j) := m_inB 0 127 rfl rfl (by omega) (by omega)
theorem in095 {sc : Int32 × (Int32 → Int32)} {f : zF} {a : zA} {j : zJ} {d : Nat} {v : Int32} : cf sc (d + 1) 107 [.long v.toInt64, .long 0, .long 95] f a j = some (some (.int (zb (zBtw v 0 95))), f, a, j) := m_inB 0 95 rfl rfl (by omega) (by omega)
theorem in0999 {sc : Int32 × (Int32 → Int32)} {f : zF} {a : zA} {j : zJ} {d : Nat} {v : Int32} : cf sc (d + 1) 107 [.long v.toInt64, .long 0, .long 999] f a j = some (some (.int (zb (zBtw v 0 999))), f, a, j) := m_inB 0 999 rfl rfl (by omega) (by omega)
theorem in196 {sc : Int32 × (Int32 → Int32)} {f : zF} {a : zA} {j : zJ} {d : Nat} {v : Int32} : cf sc (d + 1) 107 [.long v.toInt64, .long 1, .long 96] f a j = some (some (.int (zb (zBtw v 1 96))), f, a, j) := m_inB 1 96 rfl rfl (by omega) (by omega)
theorem in096 {sc : Int32 × (Int32 → Int32)} {f : zF} {a : zA} {j : zJ} {d : Nat} {v : Int32} : cf sc (d + 1) 107 [.long v.toInt64, .long 0, .long 96] f a j = some (some (.int (zb (zBtw v 0 96))), f, a, j) := m_inB 0 96 rfl rfl (by omega) (by omega)
theorem in112 {sc : Int32 × (Int32 → Int32)} {f : zF} {a : zA} {j : zJ} {d : Nat} {v : Int32} : cf sc (d + 1) 107 [.long v.toInt64, .long 1, .long 12] f a j = some (some (.int (zb (zBtw v 1 12))), f, a, j) := m_inB 1 12 rfl rfl (by omega) (by omega)
theorem in05 {sc : Int32 × (Int32 → Int32)} {f : zF} {a : zA} {j : zJ} {d : Nat} {v : Int32} : cf sc (d + 1) 107 [.long v.toInt64, .long 0, .long 5] f a j = some (some (.int (zb (zBtw v 0 5))), f, a, j) := m_inB 0 5 rfl rfl (by omega) (by omega)
theorem inm4 {sc : Int32 × (Int32 → Int32)} {f : zF} {a : zA} {j : zJ} {d : Nat} {v : Int32} : cf sc (d + 1) 107 [.long v.toInt64, .long (-1), .long 4] f a j = some (some (.int (zb (v = -1 ∨ zBtw v 0 4))), f, a, j) := by
  have e : (¬ v.toInt64 < -1 ∧ ¬ (4 : Int64) < v.toInt64) ↔ (¬ v < -1 ∧ ¬ nI 4 < v) := by
    rw [Int64.lt_iff_toInt_lt, Int64.lt_iff_toInt_lt, Int32.toInt_toInt64, Int32.lt_iff_toInt_lt, Int32.lt_iff_toInt_lt, nI_toInt (by omega)]
    rfl
  rw [m_in, zb_iff (e.trans in_m1)]
/-- a number below how many there are -/
theorem inHas {sc : Int32 × (Int32 → Int32)} {f : zF} {a : zA} {j : zJ} {d n : Nat} {v : Int32} (hn : n ≤ 1000) : cf sc (d + 1) 107 [.long v.toInt64, .long 0, .long (nI n - nI 1).toInt64] f a j = some (some (.int (zb (zHas v n))), f, a, j) := by
  have e : (¬ v.toInt64 < 0 ∧ ¬ (nI n - nI 1).toInt64 < v.toInt64) ↔ (¬ v < nI 0 ∧ ¬ nI n - nI 1 < v) := by
    rw [Int64.lt_iff_toInt_lt, Int64.lt_iff_toInt_lt, Int32.toInt_toInt64, Int32.toInt_toInt64, Int32.lt_iff_toInt_lt, Int32.lt_iff_toInt_lt]
    rfl
  rw [m_in, zb_iff (e.trans (has_iff hn))]
theorem m_isField {sc : Int32 × (Int32 → Int32)} {f : zF} {a : zA} {j : zJ} {d : Nat} {σ : Nat → Nat} {v : Int32} (hR : MR σ a) (hn : σ 0 ≤ 8) : cf sc (d + 2) 109 [.ref 85, .int v] f a j = some (some (.int (zb (zHas v (σ 0)))), f, a, j) := by
  have ix : zIx 21 86 (nI 0) := ix86 (by omega)
  have e0 := hR 0 (by omega)
  rw [en109]
  simp only [q109_0, q109_1, q109_2, q109_3, q109_4, q109_7, q109_8, q109_9, q109_10, q109_11, q109_12, q109_15, ix, e0, inHas (show σ 0 ≤ 1000 by omega), zb_okT, zCall_some, Option.toList, List.cons_append, List.nil_append, zb_0, zb_1, zem, z01, z11, nI_add, ↓reduceIte, not_true_eq_false, not_false_eq_true, n0T, n1F, n11T, true_or, or_true, false_or]
theorem m_isAwayR {sc : Int32 × (Int32 → Int32)} {f : zF} {a : zA} {j : zJ} {d g : Nat} {σ : Nat → Nat} (hR : MR σ a) (hg : g < 8) (h1 : σ (32 + g) ≤ 1) : cf sc (d + 1) 110 [.ref 85, .int (nI g)] f a j = some (some (.int (zb (σ (32 + g) = 1))), f, a, j) := by
  have ix : zIx 21 86 (nI (32 + g)) := ix86 (by omega)
  have e0 := hR (32 + g) (by omega)
  rw [en110]
  have q1 : (nI (σ (32 + g)) = nI 1) = (σ (32 + g) = 1) := propext (nI_eq (by omega) (by omega))
  by_cases h : σ (32 + g) = 1
  · rw [zb_t h]
    simp only [q110_0, q110_1, q110_4, q110_6, q110_7, q110_8, q110_9, q110_10, q110_13, q110_14, q110_17, q110_18, ix, e0, q1, h, zCall_some, Option.toList, List.cons_append, List.nil_append, zb_0, zb_1, zem, z01, z11, nI_add, ↓reduceIte, not_true_eq_false, not_false_eq_true, n0T, n1F, n11T, true_or, or_true, false_or]
  · rw [zb_f h]
    simp only [q110_0, q110_1, q110_4, q110_6, q110_7, q110_8, q110_9, q110_10, q110_13, q110_14, q110_17, q110_18, ix, e0, q1, h, zCall_some, Option.toList, List.cons_append, List.nil_append, zb_0, zb_1, zem, z01, z11, nI_add, ↓reduceIte, not_true_eq_false, not_false_eq_true, n0T, n1F, n11T, true_or, or_true, false_or]
theorem m_became {sc : Int32 × (Int32 → Int32)} {f : zF} {a : zA} {j : zJ} {d p x : Nat} {σ : Nat → Nat} (hR : MR σ a) (hp : p < 140) : cf sc (d + 1) 111 [.ref 85, .int (nI p), .int (nI x)] f a j = some (some (.int (nI (σ p))), f, zuA (zuA a 86 (nI p) (nI x)) 86 (nI 4) (nI 0), j) := by
  have ix : zIx 21 86 (nI p) := ix86 hp
  have ix4 : zIx 21 86 (nI 4) := ix86 (by omega)
  have e0 := hR p hp
  rw [en111]
  simp only [q111_0, q111_1, q111_4, q111_5, q111_6, q111_7, q111_8, q111_11, q111_12, q111_13, q111_14, q111_15, q111_18, q111_19, q111_20, q111_21, q111_22, ix, ix4, e0, zCall_some, Option.toList, List.cons_append, List.nil_append, zb_0, zb_1, zem, z01, z11, nI_add, ↓reduceIte, not_true_eq_false, not_false_eq_true, n0T, n1F, n11T, true_or, or_true, false_or]
theorem MR.became {σ : Nat → Nat} {a : zA} {p x : Nat} (h : MR σ a) (hp : p < 140) : MR (zup (zup σ p x) 4 0) (zuA (zuA a 86 (nI p) (nI x)) 86 (nI 4) (nI 0)) := (h.set hp).set (by omega)
theorem m_copies {sc : Int32 × (Int32 → Int32)} {f : zF} {a : zA} {j : zJ} {d q t : Nat} (h1 : zKd q = 21 ∧ zLn q = 140) (h2 : zKd t = 21 ∧ zLn t = 140) (hne : q ≠ t) : ∃ a' : zA, cf sc (d + 1) 108 [.ref q, .ref t] f a j = some (none, f, a', j) ∧ (∀ i, i < 140 → a' t (nI i) = a q (nI i)) ∧ ∀ k, k ≠ t → a' k = a k := by
  have key := zLoopP (n := 140) (g := fun s : (Nat × zA) => rn sc (cf sc d) 108 2 [.ref q, .ref t, .int (nI s.1)] [] f s.2 j) (P := fun i s => s.1 = i ∧ (∀ r, r < i → s.2 t (nI r) = a q (nI r)) ∧ ∀ k, k ≠ t → s.2 k = a k) (by
    intro i s hi hP
    obtain ⟨i', a1⟩ := s
    obtain ⟨rfl, g1, g2⟩ := hP
    dsimp only at g1 g2 hi
    have c1 : ¬ nI 140 ≤ nI i' := nI_ge hi (by omega)
    have ixq : zIx 21 q (nI i') := zIx_of h1.1 h1.2 hi
    have ixt : zIx 21 t (nI i') := zIx_of h2.1 h2.2 hi
    refine ⟨(i' + 1, zuA a1 t (nI i') (a q (nI i'))), ⟨rfl, fun r hr => ?_, fun k hk => ?_⟩, ?_⟩
    · dsimp only
      by_cases e : r = i'
      · rw [e]; exact zuA_eq
      · rw [zuA_ni (nI_ne (by omega) (by omega) e)]; exact g1 r (by omega)
    · dsimp only
      rw [zuA_nk hk]; exact g2 k hk
    · dsimp only
      rw [q108_2]
      simp only [q108_0, q108_1, q108_3, q108_6, q108_9, q108_10, q108_11, q108_12, q108_13, q108_14, q108_15, q108_18, q108_21, c1, ixq, ixt, g2 q hne, zCall_some, Option.toList, List.cons_append, List.nil_append, zb_0, zb_1, zem, z01, z11, nI_add, ↓reduceIte, not_true_eq_false, not_false_eq_true, n0T, n1F, n11T, true_or, or_true, false_or]) (0, a) ⟨rfl, fun r hr => by omega, fun _ _ => rfl⟩
  obtain ⟨⟨i, a1⟩, ⟨hi, g1, g2⟩, e⟩ := key
  dsimp only at g1 g2 hi e
  rw [hi] at e
  refine ⟨a1, ?_, g1, g2⟩
  have c1 : nI 140 ≤ nI 140 := nI_le (Nat.le_refl _) (by omega)
  rw [en108, q108_0, q108_1]
  refine Eq.trans (show _ = _ from e) ?_
  simp only [q108_2, q108_3, q108_6, q108_21, c1, zCall_some, Option.toList, List.cons_append, List.nil_append, zb_0, zb_1, zem, z01, z11, nI_add, ↓reduceIte, not_true_eq_false, not_false_eq_true, n0T, n1F, n11T, true_or, or_true, false_or]
/-! ===== the reference: field .. pass ===== -/
theorem y_field {sc : Int32 × (Int32 → Int32)} {f : zF} {a : zA} {j : zJ} {d : Nat} {σ : Nat → Nat} {x y : Int32} (hR : MR σ a) (h8 : σ 0 ≤ 8) : ∃ a' : zA, cf sc (d + 2) 112 [.ref 85, .int x, .int y] f a j = some (some (.int (cfS σ x y).1), f, a', j) ∧ MR (cfS σ x y).2 a' ∧ ∀ k, k ≠ 86 → a' k = a k := by
  have ix0 : zIx 21 86 (nI 0) := ix86 (by omega)
  have e0 := hR 0 (by omega)
  rw [en112]
  unfold cfS
  by_cases hx : zBtw x 0 3
  · by_cases hy : zBtw y 1 9
    · rw [if_pos ⟨hx, hy⟩]
      have q8 : (nI (σ 0) = nI 8) = (σ 0 = 8) := propext (nI_eq (by omega) (by omega))
      by_cases hn : σ 0 < 8
      · rw [if_pos hn]
        obtain ⟨r, r1, r2, rfl⟩ := zBtw_of (by omega) (by omega) hx
        obtain ⟨s, s1, s2, rfl⟩ := zBtw_of (by omega) (by omega) hy
        have ec : (nI r).toNatClampNeg = r := nI_clamp (by omega)
        have es : (nI s).toNatClampNeg = s := nI_clamp (by omega)
        have n8 : ¬ σ 0 = 8 := by omega
        have i16 : zIx 21 86 (nI (16 + σ 0)) := ix86 (by omega)
        have i24 : zIx 21 86 (nI (24 + σ 0)) := ix86 (by omega)
        have i32 : zIx 21 86 (nI (32 + σ 0)) := ix86 (by omega)
        have hR3 : MR (zup (zup (zup σ (16 + σ 0) r) (24 + σ 0) s) (32 + σ 0) 0) (zuA (zuA (zuA a 86 (nI (16 + σ 0)) (nI r)) 86 (nI (24 + σ 0)) (nI s)) 86 (nI (32 + σ 0)) (nI 0)) := ((hR.set (by omega)).set (by omega)).set (by omega)
        have hb := m_became (sc := sc) (d := d) (f := f) (j := j) (p := 0) (x := σ 0 + 1) hR3 (by omega)
        refine ⟨_, ?_, (hR3.became (p := 0) (x := σ 0 + 1) (by omega)).ext (fun i hi => ?_), fun k hk => ?_⟩
        · simp only [q112_0, q112_1, q112_2, q112_3, q112_6, q112_9, q112_12, q112_13, q112_14, q112_15, q112_18, q112_21, q112_24, q112_26, q112_27, q112_28, q112_31, q112_32, q112_33, q112_35, q112_38, q112_40, q112_41, q112_42, q112_45, q112_46, q112_47, q112_48, q112_49, q112_52, q112_54, q112_55, q112_56, q112_57, q112_58, q112_59, q112_62, q112_64, q112_65, q112_66, q112_67, q112_68, q112_69, q112_72, q112_74, q112_75, q112_76, q112_77, q112_78, q112_79, q112_80, q112_81, q112_82, q112_83, q112_86, q112_87, q112_88, in03, in19, eq_true hx, eq_true hy, ix0, e0, q8, n8, i16, i24, i32, hb, zCall_some, Option.toList, List.cons_append, List.nil_append, zb_0, zb_1, zem, z01, z11, nI_add, ↓reduceIte, not_true_eq_false, not_false_eq_true, n0T, n1F, n11T, true_or, or_true, false_or]
        · rw [ec, es]
          unfold cfU
          dsimp only
          by_cases w0 : i = 0
          · rw [w0, zup_eq, zup_ne (by omega), zup_eq]
          · rw [zup_ne w0]
            by_cases w4 : i = 4
            · rw [w4, zup_eq, zup_eq]
            · rw [zup_ne w4, zup_ne w4, zup_ne w0]
        · rw [zuA_nk hk, zuA_nk hk, zuA_nk hk, zuA_nk hk, zuA_nk hk]
      · rw [if_neg hn]
        have n8 : σ 0 = 8 := by omega
        refine ⟨a, ?_, hR, fun _ _ => rfl⟩
        simp only [q112_0, q112_1, q112_2, q112_3, q112_6, q112_9, q112_12, q112_13, q112_14, q112_15, q112_18, q112_21, q112_24, q112_26, q112_27, q112_28, q112_31, q112_32, q112_33, q112_35, q112_38, q112_40, q112_41, q112_42, q112_45, q112_46, q112_47, q112_48, q112_49, q112_52, q112_54, q112_55, q112_56, q112_57, q112_58, q112_59, q112_62, q112_64, q112_65, q112_66, q112_67, q112_68, q112_69, q112_72, q112_74, q112_75, q112_76, q112_77, q112_78, q112_79, q112_80, q112_81, q112_82, q112_83, q112_86, q112_87, q112_88, in03, in19, eq_true hx, eq_true hy, ix0, e0, q8, n8, zCall_some, Option.toList, List.cons_append, List.nil_append, zb_0, zb_1, zem, z01, z11, nI_add, ↓reduceIte, not_true_eq_false, not_false_eq_true, n0T, n1F, n11T, true_or, or_true, false_or]
    · rw [if_neg (fun q => hy q.2)]
      refine ⟨a, ?_, hR, fun _ _ => rfl⟩
      simp only [q112_0, q112_1, q112_2, q112_3, q112_6, q112_9, q112_12, q112_13, q112_14, q112_15, q112_18, q112_21, q112_24, q112_26, q112_27, q112_28, q112_31, q112_32, q112_33, q112_35, q112_38, q112_40, q112_41, q112_42, q112_45, q112_46, q112_47, q112_48, q112_49, q112_52, q112_54, q112_55, q112_56, q112_57, q112_58, q112_59, q112_62, q112_64, q112_65, q112_66, q112_67, q112_68, q112_69, q112_72, q112_74, q112_75, q112_76, q112_77, q112_78, q112_79, q112_80, q112_81, q112_82, q112_83, q112_86, q112_87, q112_88, in03, in19, eq_true hx, eq_false hy, zCall_some, Option.toList, List.cons_append, List.nil_append, zb_0, zb_1, zem, z01, z11, nI_add, ↓reduceIte, not_true_eq_false, not_false_eq_true, n0T, n1F, n11T, true_or, or_true, false_or]
  · rw [if_neg (fun q => hx q.1)]
    refine ⟨a, ?_, hR, fun _ _ => rfl⟩
    simp only [q112_0, q112_1, q112_2, q112_3, q112_6, q112_9, q112_12, q112_13, q112_14, q112_15, q112_18, q112_21, q112_24, q112_26, q112_27, q112_28, q112_31, q112_32, q112_33, q112_35, q112_38, q112_40, q112_41, q112_42, q112_45, q112_46, q112_47, q112_48, q112_49, q112_52, q112_54, q112_55, q112_56, q112_57, q112_58, q112_59, q112_62, q112_64, q112_65, q112_66, q112_67, q112_68, q112_69, q112_72, q112_74, q112_75, q112_76, q112_77, q112_78, q112_79, q112_80, q112_81, q112_82, q112_83, q112_86, q112_87, q112_88, in03, eq_false hx, zCall_some, Option.toList, List.cons_append, List.nil_append, zb_0, zb_1, zem, z01, z11, nI_add, ↓reduceIte, not_true_eq_false, not_false_eq_true, n0T, n1F, n11T, true_or, or_true, false_or]
theorem y_renew {sc : Int32 × (Int32 → Int32)} {f : zF} {a : zA} {j : zJ} {d : Nat} {σ : Nat → Nat} {v w x : Int32} (hR : MR σ a) (h8 : σ 0 ≤ 8) : ∃ a' : zA, cf sc (d + 3) 113 [.ref 85, .int v, .int w, .int x] f a j = some (some (.int (rfS σ v w x).1), f, a', j) ∧ MR (rfS σ v w x).2 a' ∧ ∀ k, k ≠ 86 → a' k = a k := by
  have hF := m_isField (sc := sc) (d := d) (f := f) (a := a) (j := j) (v := v) hR h8
  rw [en113]
  unfold rfS
  by_cases hv : zHas v (σ 0)
  · by_cases hw : zBtw w 0 1
    · rw [if_pos ⟨hv, hw⟩]
      obtain ⟨g, hg, rfl⟩ := zHas_of (by omega) hv
      obtain ⟨q, q1, q2, rfl⟩ := zBtw_of (by omega) (by omega) hw
      have ec : (nI g).toNatClampNeg = g := nI_clamp (by omega)
      rcases (show q = 0 ∨ q = 1 by omega) with rfl | rfl
      · rw [if_pos rfl]
        by_cases hx : zBtw x 0 3
        · rw [if_pos hx]
          obtain ⟨y, y1, y2, rfl⟩ := zBtw_of (by omega) (by omega) hx
          have ey : (nI y).toNatClampNeg = y := nI_clamp (by omega)
          have hb := m_became (sc := sc) (d := d + 1) (f := f) (j := j) (p := 16 + g) (x := y) hR (by omega)
          refine ⟨_, ?_, by rw [ec, ey]; exact hR.became (by omega), fun k hk => by rw [zuA_nk hk, zuA_nk hk]⟩
          rw [ec]
          simp only [q113_0, q113_1, q113_2, q113_5, q113_8, q113_9, q113_10, q113_11, q113_12, q113_15, q113_18, q113_19, q113_20, q113_21, q113_24, q113_25, q113_26, q113_27, q113_30, q113_33, q113_36, q113_39, q113_40, q113_41, q113_42, q113_45, q113_48, q113_51, q113_53, q113_54, q113_55, q113_56, q113_59, q113_61, q113_64, q113_66, q113_67, q113_68, q113_69, q113_72, hF, in01, in03, in19, eq_true hv, eq_true hw, eq_true hx, hb, zCall_some, Option.toList, List.cons_append, List.nil_append, zb_0, zb_1, zem, z01, z11, nI_add, ↓reduceIte, not_true_eq_false, not_false_eq_true, n0T, n1F, n11T, true_or, or_true, false_or]
        · rw [if_neg hx]
          refine ⟨a, ?_, hR, fun _ _ => rfl⟩
          simp only [q113_0, q113_1, q113_2, q113_5, q113_8, q113_9, q113_10, q113_11, q113_12, q113_15, q113_18, q113_19, q113_20, q113_21, q113_24, q113_25, q113_26, q113_27, q113_30, q113_33, q113_36, q113_39, q113_40, q113_41, q113_42, q113_45, q113_48, q113_51, q113_53, q113_54, q113_55, q113_56, q113_59, q113_61, q113_64, q113_66, q113_67, q113_68, q113_69, q113_72, hF, in01, in03, in19, eq_true hv, eq_true hw, eq_false hx, zCall_some, Option.toList, List.cons_append, List.nil_append, zb_0, zb_1, zem, z01, z11, nI_add, ↓reduceIte, not_true_eq_false, not_false_eq_true, n0T, n1F, n11T, true_or, or_true, false_or]
      · rw [if_neg ne1_0]
        by_cases hx : zBtw x 1 9
        · rw [if_pos hx]
          obtain ⟨y, y1, y2, rfl⟩ := zBtw_of (by omega) (by omega) hx
          have ey : (nI y).toNatClampNeg = y := nI_clamp (by omega)
          have hb := m_became (sc := sc) (d := d + 1) (f := f) (j := j) (p := 24 + g) (x := y) hR (by omega)
          refine ⟨_, ?_, by rw [ec, ey]; exact hR.became (by omega), fun k hk => by rw [zuA_nk hk, zuA_nk hk]⟩
          rw [ec]
          simp only [q113_0, q113_1, q113_2, q113_5, q113_8, q113_9, q113_10, q113_11, q113_12, q113_15, q113_18, q113_19, q113_20, q113_21, q113_24, q113_25, q113_26, q113_27, q113_30, q113_33, q113_36, q113_39, q113_40, q113_41, q113_42, q113_45, q113_48, q113_51, q113_53, q113_54, q113_55, q113_56, q113_59, q113_61, q113_64, q113_66, q113_67, q113_68, q113_69, q113_72, hF, in01, in03, in19, eq_true hv, eq_true hw, eq_true hx, hb, zCall_some, Option.toList, List.cons_append, List.nil_append, zb_0, zb_1, zem, z01, z11, nI_add, ↓reduceIte, not_true_eq_false, not_false_eq_true, n0T, n1F, n11T, true_or, or_true, false_or]
        · rw [if_neg hx]
          refine ⟨a, ?_, hR, fun _ _ => rfl⟩
          simp only [q113_0, q113_1, q113_2, q113_5, q113_8, q113_9, q113_10, q113_11, q113_12, q113_15, q113_18, q113_19, q113_20, q113_21, q113_24, q113_25, q113_26, q113_27, q113_30, q113_33, q113_36, q113_39, q113_40, q113_41, q113_42, q113_45, q113_48, q113_51, q113_53, q113_54, q113_55, q113_56, q113_59, q113_61, q113_64, q113_66, q113_67, q113_68, q113_69, q113_72, hF, in01, in03, in19, eq_true hv, eq_true hw, eq_false hx, zCall_some, Option.toList, List.cons_append, List.nil_append, zb_0, zb_1, zem, z01, z11, nI_add, ↓reduceIte, not_true_eq_false, not_false_eq_true, n0T, n1F, n11T, true_or, or_true, false_or]
    · rw [if_neg (fun q => hw q.2)]
      refine ⟨a, ?_, hR, fun _ _ => rfl⟩
      simp only [q113_0, q113_1, q113_2, q113_5, q113_8, q113_9, q113_10, q113_11, q113_12, q113_15, q113_18, q113_19, q113_20, q113_21, q113_24, q113_25, q113_26, q113_27, q113_30, q113_33, q113_36, q113_39, q113_40, q113_41, q113_42, q113_45, q113_48, q113_51, q113_53, q113_54, q113_55, q113_56, q113_59, q113_61, q113_64, q113_66, q113_67, q113_68, q113_69, q113_72, hF, in01, eq_true hv, eq_false hw, zCall_some, Option.toList, List.cons_append, List.nil_append, zb_0, zb_1, zem, z01, z11, nI_add, ↓reduceIte, not_true_eq_false, not_false_eq_true, n0T, n1F, n11T, true_or, or_true, false_or]
  · rw [if_neg (fun q => hv q.1)]
    refine ⟨a, ?_, hR, fun _ _ => rfl⟩
    simp only [q113_0, q113_1, q113_2, q113_5, q113_8, q113_9, q113_10, q113_11, q113_12, q113_15, q113_18, q113_19, q113_20, q113_21, q113_24, q113_25, q113_26, q113_27, q113_30, q113_33, q113_36, q113_39, q113_40, q113_41, q113_42, q113_45, q113_48, q113_51, q113_53, q113_54, q113_55, q113_56, q113_59, q113_61, q113_64, q113_66, q113_67, q113_68, q113_69, q113_72, hF, eq_false hv, zCall_some, Option.toList, List.cons_append, List.nil_append, zb_0, zb_1, zem, z01, z11, nI_add, ↓reduceIte, not_true_eq_false, not_false_eq_true, n0T, n1F, n11T, true_or, or_true, false_or]
theorem y_absent {sc : Int32 × (Int32 → Int32)} {f : zF} {a : zA} {j : zJ} {d : Nat} {σ : Nat → Nat} {v b : Int32} (hR : MR σ a) (h8 : σ 0 ≤ 8) : ∃ a' : zA, cf sc (d + 3) 114 [.ref 85, .int v, .int b] f a j = some (some (.int (awS σ v b).1), f, a', j) ∧ MR (awS σ v b).2 a' ∧ ∀ k, k ≠ 86 → a' k = a k := by
  have hF := m_isField (sc := sc) (d := d) (f := f) (a := a) (j := j) (v := v) hR h8
  rw [en114]
  unfold awS
  by_cases hv : zHas v (σ 0)
  · rw [if_pos hv]
    obtain ⟨g, hg, rfl⟩ := zHas_of (by omega) hv
    have ec : (nI g).toNatClampNeg = g := nI_clamp (by omega)
    rw [ec]
    by_cases hb0 : b = 0
    · have hb := m_became (sc := sc) (d := d + 1) (f := f) (j := j) (p := 32 + g) (x := 0) hR (by omega)
      refine ⟨_, ?_, by rw [if_pos hb0]; exact hR.became (by omega), fun k hk => by rw [zuA_nk hk, zuA_nk hk]⟩
      simp only [q114_0, q114_1, q114_2, q114_5, q114_8, q114_9, q114_11, q114_12, q114_13, q114_14, q114_17, q114_18, q114_21, q114_22, q114_25, q114_28, q114_29, hF, eq_true hv, hb0, hb, zCall_some, Option.toList, List.cons_append, List.nil_append, zb_0, zb_1, zem, z01, z11, nI_add, ↓reduceIte, not_true_eq_false, not_false_eq_true, n0T, n1F, n11T, true_or, or_true, false_or]
    · have hb := m_became (sc := sc) (d := d + 1) (f := f) (j := j) (p := 32 + g) (x := 1) hR (by omega)
      refine ⟨_, ?_, by rw [if_neg hb0]; exact hR.became (by omega), fun k hk => by rw [zuA_nk hk, zuA_nk hk]⟩
      simp only [q114_0, q114_1, q114_2, q114_5, q114_8, q114_9, q114_11, q114_12, q114_13, q114_14, q114_17, q114_18, q114_21, q114_22, q114_25, q114_28, q114_29, hF, eq_true hv, hb0, hb, zCall_some, Option.toList, List.cons_append, List.nil_append, zb_0, zb_1, zem, z01, z11, nI_add, ↓reduceIte, not_true_eq_false, not_false_eq_true, n0T, n1F, n11T, true_or, or_true, false_or]
  · rw [if_neg hv]
    refine ⟨a, ?_, hR, fun _ _ => rfl⟩
    simp only [q114_0, q114_1, q114_2, q114_5, q114_8, q114_9, q114_11, q114_12, q114_13, q114_14, q114_17, q114_18, q114_21, q114_22, q114_25, q114_28, q114_29, hF, eq_false hv, zCall_some, Option.toList, List.cons_append, List.nil_append, zb_0, zb_1, zem, z01, z11, nI_add, ↓reduceIte, not_true_eq_false, not_false_eq_true, n0T, n1F, n11T, true_or, or_true, false_or]
theorem y_reach {sc : Int32 × (Int32 → Int32)} {f : zF} {a : zA} {j : zJ} {d : Nat} {σ : Nat → Nat} {v w x : Int32} (hR : MR σ a) : ∃ a' : zA, cf sc (d + 2) 115 [.ref 85, .int v, .int w, .int x] f a j = some (some (.int (rrS σ v w x).1), f, a', j) ∧ MR (rrS σ v w x).2 a' ∧ ∀ k, k ≠ 86 → a' k = a k := by
  rw [en115]
  unfold rrS
  by_cases hv : zBtw v 0 3
  · by_cases hw : zBtw w 0 1
    · rw [if_pos ⟨hv, hw⟩]
      obtain ⟨g, g1, g2, rfl⟩ := zBtw_of (by omega) (by omega) hv
      obtain ⟨q, q1, q2, rfl⟩ := zBtw_of (by omega) (by omega) hw
      have ec : (nI g).toNatClampNeg = g := nI_clamp (by omega)
      rcases (show q = 0 ∨ q = 1 by omega) with rfl | rfl
      · rw [if_pos rfl]
        by_cases hx : zBtw x 0 9
        · rw [if_pos hx]
          obtain ⟨y, y1, y2, rfl⟩ := zBtw_of (by omega) (by omega) hx
          have ey : (nI y).toNatClampNeg = y := nI_clamp (by omega)
          have hb := m_became (sc := sc) (d := d) (f := f) (j := j) (p := 8 + g) (x := y) hR (by omega)
          refine ⟨_, ?_, by rw [ec, ey]; exact hR.became (by omega), fun k hk => by rw [zuA_nk hk, zuA_nk hk]⟩
          rw [ec]
          simp only [q115_0, q115_1, q115_2, q115_3, q115_6, q115_9, q115_12, q115_13, q115_14, q115_15, q115_16, q115_19, q115_22, q115_23, q115_24, q115_25, q115_26, q115_27, q115_28, q115_31, q115_34, q115_37, q115_40, q115_43, q115_46, q115_48, q115_49, q115_50, q115_51, q115_54, q115_56, q115_59, q115_61, q115_62, q115_63, q115_64, q115_67, in03, in01, in09, in025, eq_true hv, eq_true hw, eq_true hx, hb, zCall_some, Option.toList, List.cons_append, List.nil_append, zb_0, zb_1, zem, z01, z11, nI_add, ↓reduceIte, not_true_eq_false, not_false_eq_true, n0T, n1F, n11T, true_or, or_true, false_or]
        · rw [if_neg hx]
          refine ⟨a, ?_, hR, fun _ _ => rfl⟩
          simp only [q115_0, q115_1, q115_2, q115_3, q115_6, q115_9, q115_12, q115_13, q115_14, q115_15, q115_16, q115_19, q115_22, q115_23, q115_24, q115_25, q115_26, q115_27, q115_28, q115_31, q115_34, q115_37, q115_40, q115_43, q115_46, q115_48, q115_49, q115_50, q115_51, q115_54, q115_56, q115_59, q115_61, q115_62, q115_63, q115_64, q115_67, in03, in01, in09, in025, eq_true hv, eq_true hw, eq_false hx, zCall_some, Option.toList, List.cons_append, List.nil_append, zb_0, zb_1, zem, z01, z11, nI_add, ↓reduceIte, not_true_eq_false, not_false_eq_true, n0T, n1F, n11T, true_or, or_true, false_or]
      · rw [if_neg ne1_0]
        by_cases hx : zBtw x 0 25
        · rw [if_pos hx]
          obtain ⟨y, y1, y2, rfl⟩ := zBtw_of (by omega) (by omega) hx
          have ey : (nI y).toNatClampNeg = y := nI_clamp (by omega)
          have hb := m_became (sc := sc) (d := d) (f := f) (j := j) (p := 12 + g) (x := y) hR (by omega)
          refine ⟨_, ?_, by rw [ec, ey]; exact hR.became (by omega), fun k hk => by rw [zuA_nk hk, zuA_nk hk]⟩
          rw [ec]
          simp only [q115_0, q115_1, q115_2, q115_3, q115_6, q115_9, q115_12, q115_13, q115_14, q115_15, q115_16, q115_19, q115_22, q115_23, q115_24, q115_25, q115_26, q115_27, q115_28, q115_31, q115_34, q115_37, q115_40, q115_43, q115_46, q115_48, q115_49, q115_50, q115_51, q115_54, q115_56, q115_59, q115_61, q115_62, q115_63, q115_64, q115_67, in03, in01, in09, in025, eq_true hv, eq_true hw, eq_true hx, hb, zCall_some, Option.toList, List.cons_append, List.nil_append, zb_0, zb_1, zem, z01, z11, nI_add, ↓reduceIte, not_true_eq_false, not_false_eq_true, n0T, n1F, n11T, true_or, or_true, false_or]
        · rw [if_neg hx]
          refine ⟨a, ?_, hR, fun _ _ => rfl⟩
          simp only [q115_0, q115_1, q115_2, q115_3, q115_6, q115_9, q115_12, q115_13, q115_14, q115_15, q115_16, q115_19, q115_22, q115_23, q115_24, q115_25, q115_26, q115_27, q115_28, q115_31, q115_34, q115_37, q115_40, q115_43, q115_46, q115_48, q115_49, q115_50, q115_51, q115_54, q115_56, q115_59, q115_61, q115_62, q115_63, q115_64, q115_67, in03, in01, in09, in025, eq_true hv, eq_true hw, eq_false hx, zCall_some, Option.toList, List.cons_append, List.nil_append, zb_0, zb_1, zem, z01, z11, nI_add, ↓reduceIte, not_true_eq_false, not_false_eq_true, n0T, n1F, n11T, true_or, or_true, false_or]
    · rw [if_neg (fun q => hw q.2)]
      refine ⟨a, ?_, hR, fun _ _ => rfl⟩
      simp only [q115_0, q115_1, q115_2, q115_3, q115_6, q115_9, q115_12, q115_13, q115_14, q115_15, q115_16, q115_19, q115_22, q115_23, q115_24, q115_25, q115_26, q115_27, q115_28, q115_31, q115_34, q115_37, q115_40, q115_43, q115_46, q115_48, q115_49, q115_50, q115_51, q115_54, q115_56, q115_59, q115_61, q115_62, q115_63, q115_64, q115_67, in03, in01, eq_true hv, eq_false hw, zCall_some, Option.toList, List.cons_append, List.nil_append, zb_0, zb_1, zem, z01, z11, nI_add, ↓reduceIte, not_true_eq_false, not_false_eq_true, n0T, n1F, n11T, true_or, or_true, false_or]
  · rw [if_neg (fun q => hv q.1)]
    refine ⟨a, ?_, hR, fun _ _ => rfl⟩
    simp only [q115_0, q115_1, q115_2, q115_3, q115_6, q115_9, q115_12, q115_13, q115_14, q115_15, q115_16, q115_19, q115_22, q115_23, q115_24, q115_25, q115_26, q115_27, q115_28, q115_31, q115_34, q115_37, q115_40, q115_43, q115_46, q115_48, q115_49, q115_50, q115_51, q115_54, q115_56, q115_59, q115_61, q115_62, q115_63, q115_64, q115_67, in03, eq_false hv, zCall_some, Option.toList, List.cons_append, List.nil_append, zb_0, zb_1, zem, z01, z11, nI_add, ↓reduceIte, not_true_eq_false, not_false_eq_true, n0T, n1F, n11T, true_or, or_true, false_or]
theorem y_hours {sc : Int32 × (Int32 → Int32)} {f : zF} {a : zA} {j : zJ} {d : Nat} {σ : Nat → Nat} {v : Int32} (hR : MR σ a) : ∃ a' : zA, cf sc (d + 2) 117 [.ref 85, .int v] f a j = some (some (.int (hwS σ v).1), f, a', j) ∧ MR (hwS σ v).2 a' ∧ ∀ k, k ≠ 86 → a' k = a k := by
  rw [en117]
  unfold hwS
  by_cases hv : zBtw v 8 96
  · rw [if_pos hv]
    obtain ⟨y, y1, y2, rfl⟩ := zBtw_of (by omega) (by omega) hv
    have ey : (nI y).toNatClampNeg = y := nI_clamp (by omega)
    have hb := m_became (sc := sc) (d := d) (f := f) (j := j) (p := 1) (x := y) hR (by omega)
    refine ⟨_, ?_, by rw [ey]; exact hR.became (by omega), fun k hk => by rw [zuA_nk hk, zuA_nk hk]⟩
    simp only [q117_0, q117_1, q117_2, q117_5, q117_8, q117_11, q117_14, q117_15, q117_16, q117_17, q117_20, q117_23, q117_25, in896, eq_true hv, hb, zCall_some, Option.toList, List.cons_append, List.nil_append, zb_0, zb_1, zem, z01, z11, nI_add, ↓reduceIte, not_true_eq_false, not_false_eq_true, n0T, n1F, n11T, true_or, or_true, false_or]
  · rw [if_neg hv]
    refine ⟨a, ?_, hR, fun _ _ => rfl⟩
    simp only [q117_0, q117_1, q117_2, q117_5, q117_8, q117_11, q117_14, q117_15, q117_16, q117_17, q117_20, q117_23, q117_25, in896, eq_false hv, zCall_some, Option.toList, List.cons_append, List.nil_append, zb_0, zb_1, zem, z01, z11, nI_add, ↓reduceIte, not_true_eq_false, not_false_eq_true, n0T, n1F, n11T, true_or, or_true, false_or]
theorem y_rule {sc : Int32 × (Int32 → Int32)} {f : zF} {a : zA} {j : zJ} {d : Nat} {σ : Nat → Nat} {v : Int32} (hR : MR σ a) : ∃ a' : zA, cf sc (d + 2) 118 [.ref 85, .int v] f a j = some (some (.int (ruS σ v).1), f, a', j) ∧ MR (ruS σ v).2 a' ∧ ∀ k, k ≠ 86 → a' k = a k := by
  rw [en118]
  unfold ruS
  by_cases hv : zBtw v 0 3
  · rw [if_pos hv]
    obtain ⟨y, y1, y2, rfl⟩ := zBtw_of (by omega) (by omega) hv
    have ey : (nI y).toNatClampNeg = y := nI_clamp (by omega)
    have hb := m_became (sc := sc) (d := d) (f := f) (j := j) (p := 2) (x := y) hR (by omega)
    refine ⟨_, ?_, by rw [ey]; exact hR.became (by omega), fun k hk => by rw [zuA_nk hk, zuA_nk hk]⟩
    simp only [q118_0, q118_1, q118_2, q118_3, q118_6, q118_9, q118_12, q118_13, q118_14, q118_15, q118_18, q118_21, q118_23, in03, eq_true hv, hb, zCall_some, Option.toList, List.cons_append, List.nil_append, zb_0, zb_1, zem, z01, z11, nI_add, ↓reduceIte, not_true_eq_false, not_false_eq_true, n0T, n1F, n11T, true_or, or_true, false_or]
  · rw [if_neg hv]
    refine ⟨a, ?_, hR, fun _ _ => rfl⟩
    simp only [q118_0, q118_1, q118_2, q118_3, q118_6, q118_9, q118_12, q118_13, q118_14, q118_15, q118_18, q118_21, q118_23, in03, eq_false hv, zCall_some, Option.toList, List.cons_append, List.nil_append, zb_0, zb_1, zem, z01, z11, nI_add, ↓reduceIte, not_true_eq_false, not_false_eq_true, n0T, n1F, n11T, true_or, or_true, false_or]
theorem y_pass {sc : Int32 × (Int32 → Int32)} {f : zF} {a : zA} {j : zJ} {d : Nat} {σ : Nat → Nat} {v : Int32} (hR : MR σ a) (h9 : σ 3 ≤ 999) : ∃ a' : zA, cf sc (d + 2) 119 [.ref 85, .int v] f a j = some (some (.int (psS σ v).1), f, a', j) ∧ MR (psS σ v).2 a' ∧ ∀ k, k ≠ 86 → a' k = a k := by
  have ix : zIx 21 86 (nI 3) := ix86 (by omega)
  have e3 := hR 3 (by omega)
  rw [en119]
  unfold psS
  by_cases hv : zBtw v 0 52
  · rw [if_pos hv]
    obtain ⟨y, y1, y2, rfl⟩ := zBtw_of (by omega) (by omega) hv
    have ey : (nI y).toNatClampNeg = y := nI_clamp (by omega)
    rw [ey]
    by_cases hw : σ 3 + y ≤ 999
    · rw [if_pos hw]
      have c1 : nI (σ 3 + y) ≤ nI 999 := nI_le hw (by omega)
      have hb := m_became (sc := sc) (d := d) (f := f) (j := j) (p := 3) (x := σ 3 + y) hR (by omega)
      have hM := hR.became (p := 3) (x := σ 3 + y) (by omega)
      have e3' := hM 3 (by omega)
      rw [zup_ne (by omega), zup_eq] at e3'
      refine ⟨_, ?_, hM, fun k hk => by rw [zuA_nk hk, zuA_nk hk]⟩
      simp only [q119_0, q119_1, q119_2, q119_3, q119_6, q119_9, q119_12, q119_14, q119_15, q119_16, q119_19, q119_20, q119_21, q119_22, q119_23, q119_26, q119_29, q119_31, q119_32, q119_33, q119_34, q119_35, q119_38, q119_39, q119_40, q119_41, q119_42, q119_45, q119_46, q119_47, q119_50, q119_51, q119_52, in052, eq_true hv, ix, e3, c1, hb, e3', zCall_some, Option.toList, List.cons_append, List.nil_append, zb_0, zb_1, zem, z01, z11, nI_add, ↓reduceIte, not_true_eq_false, not_false_eq_true, n0T, n1F, n11T, true_or, or_true, false_or]
    · rw [if_neg hw]
      have c1 : ¬ nI (σ 3 + y) ≤ nI 999 := nI_ge (by omega) (by omega)
      refine ⟨a, ?_, hR, fun _ _ => rfl⟩
      simp only [q119_0, q119_1, q119_2, q119_3, q119_6, q119_9, q119_12, q119_14, q119_15, q119_16, q119_19, q119_20, q119_21, q119_22, q119_23, q119_26, q119_29, q119_31, q119_32, q119_33, q119_34, q119_35, q119_38, q119_39, q119_40, q119_41, q119_42, q119_45, q119_46, q119_47, q119_50, q119_51, q119_52, in052, eq_true hv, ix, e3, c1, zCall_some, Option.toList, List.cons_append, List.nil_append, zb_0, zb_1, zem, z01, z11, nI_add, ↓reduceIte, not_true_eq_false, not_false_eq_true, n0T, n1F, n11T, true_or, or_true, false_or]
  · rw [if_neg hv]
    refine ⟨a, ?_, hR, fun _ _ => rfl⟩
    simp only [q119_0, q119_1, q119_2, q119_3, q119_6, q119_9, q119_12, q119_14, q119_15, q119_16, q119_19, q119_20, q119_21, q119_22, q119_23, q119_26, q119_29, q119_31, q119_32, q119_33, q119_34, q119_35, q119_38, q119_39, q119_40, q119_41, q119_42, q119_45, q119_46, q119_47, q119_50, q119_51, q119_52, in052, eq_false hv, zCall_some, Option.toList, List.cons_append, List.nil_append, zb_0, zb_1, zem, z01, z11, nI_add, ↓reduceIte, not_true_eq_false, not_false_eq_true, n0T, n1F, n11T, true_or, or_true, false_or]
