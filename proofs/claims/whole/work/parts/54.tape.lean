/-! ===== the class: tapes ===== -/
abbrev TS : Type := Nat → Int32 × Nat × (Nat → Int64)
def tup (T : TS) (t : Nat) (x : Int32 × Nat × (Nat → Int64)) : TS := fun k => if k = t then x else T k
theorem tup_eq {T : TS} {t : Nat} {x : Int32 × Nat × (Nat → Int64)} : tup T t x t = x := if_pos rfl
theorem tup_ne {T : TS} {t k : Nat} {x : Int32 × Nat × (Nat → Int64)} (h : k ≠ t) : tup T t x k = T k := if_neg h
def TP (T : TS) (f : zF) (j : zJ) : Prop := ∀ t, t < 6 → f (73 + 2 * t) 1 = (T t).1 ∧ f (73 + 2 * t) 2 = nI (T t).2.1 ∧ ∀ i, i < (T t).2.1 → j (73 + 2 * t + 1) (nI i) = (T t).2.2 i
def VT (T : TS) : Prop := ∀ t, t < 6 → ((T t).1 = -1 ∧ (T t).2.1 = 0) ∨ ((∃ s, s < 5 ∧ (T t).1 = nI s) ∧ (T t).2.1 ≤ 60)
theorem VT.le {T : TS} (h : VT T) {t : Nat} (ht : t < 6) : (T t).2.1 ≤ 60 := by rcases h t ht with ⟨_, q⟩ | ⟨_, q⟩ <;> omega
theorem VT.up {T : TS} (h : VT T) {t : Nat} {x : Int32 × Nat × (Nat → Int64)} (hx : (x.1 = -1 ∧ x.2.1 = 0) ∨ ((∃ s, s < 5 ∧ x.1 = nI s) ∧ x.2.1 ≤ 60)) : VT (tup T t x) := by
  intro k hk
  by_cases q : k = t
  · rw [q, tup_eq]; exact hx
  · rw [tup_ne q]; exact h k hk
theorem TP.up {T : TS} {f f' : zF} {j j' : zJ} (h : TP T f j) {t : Nat} {x : Int32 × Nat × (Nat → Int64)} (h1 : f' (73 + 2 * t) 1 = x.1) (h2 : f' (73 + 2 * t) 2 = nI x.2.1) (h3 : ∀ i, i < x.2.1 → j' (73 + 2 * t + 1) (nI i) = x.2.2 i) (hf : ∀ k, k ≠ 73 + 2 * t → f' k = f k) (hj : ∀ k, k ≠ 73 + 2 * t + 1 → j' k = j k) : TP (tup T t x) f' j' := by
  intro k hk
  by_cases q : k = t
  · rw [q, tup_eq]; exact ⟨h1, h2, h3⟩
  · rw [tup_ne q, hf _ (by omega), hj _ (by omega)]; exact h k hk
theorem rf72 {t : Nat} (h : t < 6) : zRf 72 t = 73 + 2 * t := by
  rcases t with _ | _ | _ | _ | _ | _ | t
  · rfl
  · rfl
  · rfl
  · rfl
  · rfl
  · rfl
  · omega
theorem isP_t {t : Nat} (h : t < 6) : isP (73 + 2 * t) := by unfold isP; omega
theorem ix72 {t : Nat} (h : t < 6) : (zKd 72 = 23 ∨ zKd 72 = 24) ∧ ¬ (nI t < 0 ∨ zLn 72 ≤ t) := by
  refine ⟨by decide, ?_⟩
  rintro (q | q)
  · exact nI_pos (by omega) q
  · have : zLn 72 = 6 := rfl
    omega
theorem m_tapeT {sc : Int32 × (Int32 → Int32)} {f : zF} {a : zA} {j : zJ} {d t : Nat} (h : t < 6) : cf sc (d + 2) 98 [.ref 0, .int (nI t)] f a j = some (some (.ref (73 + 2 * t)), f, a, j) := by
  have hv : (¬ nI t < nI 0 ∧ ¬ nI 5 < nI t) = True := eq_true ⟨nI_nlt (by omega) (by omega), nI_nlt (by omega) (by omega)⟩
  have hx := ix72 h
  have ec : (nI t).toNatClampNeg = t := nI_clamp (by omega)
  rw [en98]
  simp only [q98_0, q98_1, q98_2, q98_3, q98_6, q98_9, q98_10, q98_13, q98_14, q98_15, q98_18, q98_19, m_isWithin, hv, eq_true hx, ec, rf72 h, zCall_some, Option.toList, List.cons_append, List.nil_append, zb_0, zb_1, zem, z01, z11, nI_add, ↓reduceIte, not_true_eq_false, not_false_eq_true, n0T, n1F, n11T, true_or, or_true, false_or]
theorem m_tapeN {sc : Int32 × (Int32 → Int32)} {f : zF} {a : zA} {j : zJ} {d : Nat} {v : Int32} (h : ¬ zBtw v 0 5) : cf sc (d + 2) 98 [.ref 0, .int v] f a j = some (some (.ref 998), f, a, j) := by
  rw [en98]
  simp only [q98_0, q98_1, q98_2, q98_3, q98_6, q98_9, q98_10, q98_13, q98_14, q98_15, q98_18, q98_19, m_isWithin, eq_false h, zCall_some, Option.toList, List.cons_append, List.nil_append, zb_0, zb_1, zem, z01, z11, nI_add, ↓reduceIte, not_true_eq_false, not_false_eq_true, n0T, n1F, n11T, true_or, or_true, false_or]
theorem nT {t : Nat} (h : t < 6) : (73 + 2 * t = 998) = False := eq_false (by omega)
theorem m_become {sc : Int32 × (Int32 → Int32)} {f : zF} {a : zA} {j : zJ} {d p n : Nat} {s : Int32} (hp : isP p) (hn : n ≤ 60) : ∃ j' : zJ, cf sc (d + 2) 27 [.ref p, .int s, .int (nI n)] f a j = some (none, zuF (zuF f p 1 s) p 2 (nI n), a, j') ∧ (∀ i, i < 60 → j' (p + 1) (nI i) = 0) ∧ ∀ k, k ≠ p + 1 → j' k = j k := by
  have key := zLoopP (n := 60) (g := fun s' : (Nat × zJ) => rn sc (cf sc (d + 1)) 27 21 [.ref p, .int s, .int (nI n), .int (nI s'.1)] [] (zuF (zuF f p 1 s) p 2 (nI n)) a s'.2) (P := fun i s' => s'.1 = i ∧ (∀ q, q < i → s'.2 (p + 1) (nI q) = 0) ∧ ∀ k, k ≠ p + 1 → s'.2 k = j k) (by
    intro i s' hi hP
    obtain ⟨i', j1⟩ := s'
    obtain ⟨rfl, h1, h2⟩ := hP
    dsimp only at h1 h2 hi
    refine ⟨(i' + 1, zuJ j1 (p + 1) (nI i') 0), ⟨rfl, fun q hq => ?_, fun k hk => ?_⟩, ?_⟩
    · dsimp only
      by_cases e : q = i'
      · rw [e]; exact zuJ_eq
      · rw [zuJ_ni (nI_ne (by omega) (by omega) e)]; exact h1 q (by omega)
    · dsimp only
      rw [zuJ_nk hk]; exact h2 k hk
    · have c1 : ¬ nI 60 ≤ nI i' := nI_ge hi (by omega)
      have ix : zIx 22 (p + 1) (nI i') := ixP hp hi
      dsimp only
      rw [q27_21]
      simp only [q27_0, q27_1, q27_2, q27_5, q27_6, q27_7, q27_8, q27_10, q27_13, q27_16, q27_19, q27_20, q27_22, q27_24, q27_27, q27_28, q27_31, q27_32, q27_33, q27_34, q27_37, q27_40, hp, c1, ix, zCall_some, Option.toList, List.cons_append, List.nil_append, zb_0, zb_1, zem, z01, z11, nI_add, ↓reduceIte, not_true_eq_false, not_false_eq_true, n0T, n1F, n11T, true_or, or_true, false_or]) (0, j) ⟨rfl, fun q hq => by omega, fun _ _ => rfl⟩
  obtain ⟨⟨i, j1⟩, ⟨hi, h1, h2⟩, e⟩ := key
  dsimp only at h1 h2 hi e
  rw [hi] at e
  refine ⟨j1, ?_, h1, h2⟩
  have c1 : nI 60 ≤ nI 60 := nI_le (Nat.le_refl _) (by omega)
  have c2 : ¬ nI 60 < nI n := nI_nlt (by omega) (by omega)
  have e2 : (if nI 0 < nI n then nI n else nI 0) = nI n := by
    rcases Nat.eq_zero_or_pos n with z | z
    · rw [z]; decide
    · rw [if_pos (nI_lt z (by omega))]
  rw [en27]
  simp only [q27_0, q27_1, q27_2, q27_5, q27_6, q27_7, q27_8, q27_10, q27_13, q27_16, q27_19, q27_20, q27_22, q27_24, q27_27, q27_28, q27_31, q27_32, q27_33, q27_34, q27_37, q27_40, hp, m_min, m_max, c2, e2, zCall_some, Option.toList, List.cons_append, List.nil_append, zb_0, zb_1, zem, z01, z11, nI_add, ↓reduceIte, not_true_eq_false, not_false_eq_true, n0T, n1F, n11T, true_or, or_true, false_or]
  refine Eq.trans (show _ = _ from e) ?_
  simp only [q27_21, q27_22, q27_24, q27_40, c1, zCall_some, Option.toList, List.cons_append, List.nil_append, zb_0, zb_1, zem, z01, z11, nI_add, ↓reduceIte, not_true_eq_false, not_false_eq_true, n0T, n1F, n11T, true_or, or_true, false_or]
theorem in_m1 {s : Int32} : (¬ s < -1 ∧ ¬ nI 4 < s) ↔ (s = -1 ∨ zBtw s 0 4) := by
  have h1 : (s < -1) ↔ s.toInt < -1 := Int32.lt_iff_toInt_lt
  have h2 : (nI 4 < s) ↔ 4 < s.toInt := Int32.lt_iff_toInt_lt
  have h3 : (s < nI 0) ↔ s.toInt < 0 := Int32.lt_iff_toInt_lt
  have h4 : (s = -1) ↔ s.toInt = -1 := Int32.toInt_inj.symm
  unfold zBtw
  rw [h1, h2, h3, h4]
  omega
def tpS (T : TS) (v s n : Int32) : Int32 × TS := if zBtw v 0 5 then (if s = -1 then (nI 1, tup T v.toNatClampNeg (-1, 0, fun _ => 0)) else if zBtw s 0 4 then (if nI 60 < n then (-2, T) else if n < 0 then (-14, T) else (nI 1, tup T v.toNatClampNeg (s, n.toNatClampNeg, fun _ => 0))) else (-2, T)) else (-1, T)
def FrP (f f' : zF) (j j' : zJ) : Prop := (∀ k, (k < 73 ∨ 84 < k) → f' k = f k) ∧ ∀ k, (k < 73 ∨ 84 < k) → j' k = j k
theorem FrP.rf {f : zF} {j : zJ} : FrP f f j j := ⟨fun _ _ => rfl, fun _ _ => rfl⟩
theorem x_tape {sc : Int32 × (Int32 → Int32)} {f : zF} {a : zA} {j : zJ} {d : Nat} {T : TS} {v s n : Int32} (hT : TP T f j) (hV : VT T) : ∃ (f' : zF) (j' : zJ), cf sc (d + 3) 89 [.ref 0, .int v, .int s, .int n] f a j = some (some (.int (tpS T v s n).1), f', a, j') ∧ TP (tpS T v s n).2 f' j' ∧ VT (tpS T v s n).2 ∧ FrP f f' j j' := by
  have e1 := zb_iff (in_m1 (s := s))
  rw [en89]
  unfold tpS
  by_cases hv : zBtw v 0 5
  · rw [if_pos hv]
    obtain ⟨t, t1, t2, rfl⟩ := zBtw_of (by omega) (by omega) hv
    have ht : t < 6 := by omega
    have hp := isP_t ht
    have hx := ix72 ht
    have ec : (nI t).toNatClampNeg = t := nI_clamp (by omega)
    rw [ec]
    by_cases hs : s = -1
    · rw [if_pos hs]
      subst hs
      obtain ⟨j1, r1, r2, r3⟩ := m_become (sc := sc) (d := d) (f := f) (a := a) (j := j) (n := 0) (s := -1) hp (by omega)
      have hb : (-1 : Int32) = -1 ∨ zBtw (-1) 0 4 := Or.inl rfl
      refine ⟨zuF (zuF f (73 + 2 * t) 1 (-1)) (73 + 2 * t) 2 (nI 0), j1, ?_, hT.up (x := (-1, 0, fun _ => 0)) (by rw [zuF_ni (by omega), zuF_eq]) zuF_eq (fun i hi => r2 i (by dsimp only at hi; omega)) (fun k hk => by rw [zuF_nk hk, zuF_nk hk]) r3, hV.up (Or.inl ⟨rfl, rfl⟩), ⟨fun k hk => by rw [zuF_nk (by omega), zuF_nk (by omega)], fun k hk => r3 k (by omega)⟩⟩
      simp only [q89_0, q89_1, q89_2, q89_5, q89_7, q89_9, q89_12, q89_13, q89_14, q89_15, q89_16, q89_17, q89_20, q89_23, q89_25, q89_26, q89_27, q89_28, q89_31, q89_33, q89_34, q89_35, q89_38, q89_39, q89_40, q89_41, q89_43, q89_46, q89_48, q89_49, q89_50, q89_53, q89_55, q89_56, q89_58, q89_59, q89_60, q89_63, q89_64, m_isWithin, e1, m_tapeT ht, nT ht, hp, r1, zCall_some, Option.toList, List.cons_append, List.nil_append, zb_0, zb_1, zem, z01, z11, nI_add, ↓reduceIte, not_true_eq_false, not_false_eq_true, n0T, n1F, n11T, true_or, or_true, false_or]
    · rw [if_neg hs]
      by_cases h4 : zBtw s 0 4
      · rw [if_pos h4]
        have hb : s = -1 ∨ zBtw s 0 4 := Or.inr h4
        by_cases h60 : nI 60 < n
        · rw [if_pos h60]
          have c1 : ¬ n ≤ nI 60 := fun q => by
            have q1 : n.toInt ≤ (nI 60).toInt := Int32.le_iff_toInt_le.mp q
            have q2 : (nI 60).toInt < n.toInt := Int32.lt_iff_toInt_lt.mp h60
            omega
          refine ⟨f, j, ?_, hT, hV, FrP.rf⟩
          simp only [q89_0, q89_1, q89_2, q89_5, q89_7, q89_9, q89_12, q89_13, q89_14, q89_15, q89_16, q89_17, q89_20, q89_23, q89_25, q89_26, q89_27, q89_28, q89_31, q89_33, q89_34, q89_35, q89_38, q89_39, q89_40, q89_41, q89_43, q89_46, q89_48, q89_49, q89_50, q89_53, q89_55, q89_56, q89_58, q89_59, q89_60, q89_63, q89_64, m_isWithin, e1, m_tapeT ht, nT ht, eq_true h4, hs, c1, zCall_some, Option.toList, List.cons_append, List.nil_append, zb_0, zb_1, zem, z01, z11, nI_add, ↓reduceIte, not_true_eq_false, not_false_eq_true, n0T, n1F, n11T, true_or, or_true, false_or]
        · rw [if_neg h60]
          have c1 : n ≤ nI 60 := by
            apply Int32.le_iff_toInt_le.mpr
            have q2 : ¬ (nI 60).toInt < n.toInt := fun q => h60 (Int32.lt_iff_toInt_lt.mpr q)
            omega
          by_cases hn : n < 0
          · rw [if_pos hn]
            have c2 : ¬ 0 ≤ n := fun q => by
              have q1 : (0 : Int32).toInt ≤ n.toInt := Int32.le_iff_toInt_le.mp q
              have q2 : n.toInt < (0 : Int32).toInt := Int32.lt_iff_toInt_lt.mp hn
              omega
            refine ⟨f, j, ?_, hT, hV, FrP.rf⟩
            simp only [q89_0, q89_1, q89_2, q89_5, q89_7, q89_9, q89_12, q89_13, q89_14, q89_15, q89_16, q89_17, q89_20, q89_23, q89_25, q89_26, q89_27, q89_28, q89_31, q89_33, q89_34, q89_35, q89_38, q89_39, q89_40, q89_41, q89_43, q89_46, q89_48, q89_49, q89_50, q89_53, q89_55, q89_56, q89_58, q89_59, q89_60, q89_63, q89_64, m_isWithin, e1, m_tapeT ht, nT ht, eq_true h4, hs, c1, c2, zCall_some, Option.toList, List.cons_append, List.nil_append, zb_0, zb_1, zem, z01, z11, nI_add, ↓reduceIte, not_true_eq_false, not_false_eq_true, n0T, n1F, n11T, true_or, or_true, false_or]
          · rw [if_neg hn]
            obtain ⟨m, m1, m2, rfl⟩ := zBtw_of (lo := 0) (hi := 60) (by omega) (by omega) ⟨hn, h60⟩
            obtain ⟨x, x1, x2, rfl⟩ := zBtw_of (by omega) (by omega) h4
            rw [nI_clamp (n := m) (by omega)]
            have c2 : 0 ≤ nI m := nI_le (a := 0) (by omega) (by omega)
            obtain ⟨j1, r1, r2, r3⟩ := m_become (sc := sc) (d := d) (f := f) (a := a) (j := j) (n := m) (s := nI x) hp (by omega)
            refine ⟨zuF (zuF f (73 + 2 * t) 1 (nI x)) (73 + 2 * t) 2 (nI m), j1, ?_, hT.up (x := (nI x, m, fun _ => 0)) (by rw [zuF_ni (by omega), zuF_eq]) zuF_eq (fun i hi => r2 i (by dsimp only at hi; omega)) (fun k hk => by rw [zuF_nk hk, zuF_nk hk]) r3, hV.up (Or.inr ⟨⟨x, by omega, rfl⟩, m2⟩), ⟨fun k hk => by rw [zuF_nk (by omega), zuF_nk (by omega)], fun k hk => r3 k (by omega)⟩⟩
            simp only [q89_0, q89_1, q89_2, q89_5, q89_7, q89_9, q89_12, q89_13, q89_14, q89_15, q89_16, q89_17, q89_20, q89_23, q89_25, q89_26, q89_27, q89_28, q89_31, q89_33, q89_34, q89_35, q89_38, q89_39, q89_40, q89_41, q89_43, q89_46, q89_48, q89_49, q89_50, q89_53, q89_55, q89_56, q89_58, q89_59, q89_60, q89_63, q89_64, m_isWithin, e1, m_tapeT ht, nT ht, eq_true h4, hs, c1, c2, hp, r1, zCall_some, Option.toList, List.cons_append, List.nil_append, zb_0, zb_1, zem, z01, z11, nI_add, ↓reduceIte, not_true_eq_false, not_false_eq_true, n0T, n1F, n11T, true_or, or_true, false_or]
      · rw [if_neg h4]
        have hb : ¬ (s = -1 ∨ zBtw s 0 4) := fun q => q.elim hs h4
        refine ⟨f, j, ?_, hT, hV, FrP.rf⟩
        simp only [q89_0, q89_1, q89_2, q89_5, q89_7, q89_9, q89_12, q89_13, q89_14, q89_15, q89_16, q89_17, q89_20, q89_23, q89_25, q89_26, q89_27, q89_28, q89_31, q89_33, q89_34, q89_35, q89_38, q89_39, q89_40, q89_41, q89_43, q89_46, q89_48, q89_49, q89_50, q89_53, q89_55, q89_56, q89_58, q89_59, q89_60, q89_63, q89_64, m_isWithin, e1, m_tapeT ht, nT ht, eq_false hb, zCall_some, Option.toList, List.cons_append, List.nil_append, zb_0, zb_1, zem, z01, z11, nI_add, ↓reduceIte, not_true_eq_false, not_false_eq_true, n0T, n1F, n11T, true_or, or_true, false_or]
  · rw [if_neg hv]
    refine ⟨f, j, ?_, hT, hV, FrP.rf⟩
    simp only [q89_0, q89_1, q89_2, q89_5, q89_7, q89_9, q89_12, q89_13, q89_14, q89_15, q89_16, q89_17, q89_20, q89_23, q89_25, q89_26, q89_27, q89_28, q89_31, q89_33, q89_34, q89_35, q89_38, q89_39, q89_40, q89_41, q89_43, q89_46, q89_48, q89_49, q89_50, q89_53, q89_55, q89_56, q89_58, q89_59, q89_60, q89_63, q89_64, m_tapeN hv, zCall_some, Option.toList, List.cons_append, List.nil_append, zb_0, zb_1, zem, z01, z11, nI_add, ↓reduceIte, not_true_eq_false, not_false_eq_true, n0T, n1F, n11T, true_or, or_true, false_or]
