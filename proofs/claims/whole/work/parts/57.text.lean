/-! ===== THE TEXT: what is read, over its signs tx (tn of them) ===== -/
def nmF (x : Nat) : Nat := if x = 102 then 2 else if x = 99 then 3 else if x = 97 ∨ x = 104 ∨ x = 112 ∨ x = 117 then 1 else 0
def dgA (tx : Nat → Nat) (tn p : Nat) : Bool := decide (p < tn ∧ 48 ≤ tx p ∧ tx p ≤ 57)
/-- how many digits lead, of k -/
def fdN (tx : Nat → Nat) (tn p : Nat) : Nat → Nat
  | 0 => 0
  | k + 1 => if fdN tx tn p k = k ∧ dgA tx tn (p + k) = true then k + 1 else fdN tx tn p k
def lxB (tx : Nat → Nat) (tn p : Nat) : Bool := decide (tx p = 99 ∨ tx p = 104) && dgA tx tn (p + 1 + nmF (tx p))
def ckB (tx : Nat → Nat) (tn p : Nat) : Bool := decide (p < tn ∧ nmF (tx p) ≠ 0 ∧ fdN tx tn (p + 1) (nmF (tx p)) = nmF (tx p))
def fltP (tx : Nat → Nat) (tn p : Nat) : Nat := if tn ≤ p ∨ nmF (tx p) = 0 then p else p + 1 + fdN tx tn (p + 1) (nmF (tx p))
def clE (tx : Nat → Nat) (tn p : Nat) : Nat := p + 1 + nmF (tx p) + (if lxB tx tn p = true then 1 else 0)
def vlF (tx : Nat → Nat) (tn p i : Nat) : Nat := if i + 1 = nmF (tx p) ∧ lxB tx tn p = true then (tx (p + 1 + i) - 48) * 10 + (tx (p + 1 + nmF (tx p)) - 48) else tx (p + 1 + i) - 48
def psN (tx : Nat → Nat) (tn : Nat) : Nat → Nat
  | 0 => 0
  | i + 1 => clE tx tn (psN tx tn i) + 1
/-- (0, how many CLAUSES) or (1, the FAULT) -/
def prF (tx : Nat → Nat) (tn : Nat) : Nat → Nat → Nat × Nat
  | 0, i => (1, psN tx tn i)
  | m + 1, i => if ckB tx tn (psN tx tn i) = true then (if tn ≤ clE tx tn (psN tx tn i) then (0, i + 1) else if tx (clE tx tn (psN tx tn i)) = 59 ∧ i + 1 ≠ 12 then prF tx tn m (i + 1) else (1, clE tx tn (psN tx tn i))) else (1, fltP tx tn (psN tx tn i))
def dcS (σ : Nat → Nat) (x v1 v2 v3 : Nat) : Int32 × (Nat → Nat) := if x = 102 then cfS σ (nI v1) (nI v2) else if x = 99 then srS σ (nI v1) (nI v2) (nI v3) else if x = 104 then hwS σ (nI v1) else if x = 117 then ruS σ (nI v1) else if x = 97 then awS σ (nI v1) (nI 1) else awS σ (nI v1) (nI 0)
def dnF (tx : Nat → Nat) (tn : Nat) (σ : Nat → Nat) : Nat → Nat × (Nat → Nat)
  | 0 => (0, σ)
  | i + 1 => ((if (dcS (dnF tx tn σ i).2 (tx (psN tx tn i)) (vlF tx tn (psN tx tn i) 0) (vlF tx tn (psN tx tn i) 1) (vlF tx tn (psN tx tn i) 2)).1 < 0 then (dnF tx tn σ i).1 else (dnF tx tn σ i).1 + 1), (dcS (dnF tx tn σ i).2 (tx (psN tx tn i)) (vlF tx tn (psN tx tn i) 0) (vlF tx tn (psN tx tn i) 1) (vlF tx tn (psN tx tn i) 2)).2)
def rdS (tx : Nat → Nat) (tn : Nat) (σ : Nat → Nat) : Int32 × (Nat → Nat) := if (prF tx tn 12 0).1 = 0 then (nI (dnF tx tn σ (prF tx tn 12 0).2).1, (dnF tx tn σ (prF tx tn 12 0).2).2) else (-10 - nI (prF tx tn 12 0).2, σ)
def VX (tx : Nat → Nat) (tn : Nat) : Prop := tn ≤ 100 ∧ ∀ i, i < tn → tx i < 128
/-- the class's text -/
def TX (tx : Nat → Nat) (tn : Nat) (f : zF) (a : zA) : Prop := f 65 1 = nI tn ∧ ∀ i, i < tn → a 66 (nI i) = nI (tx i)
def fdS (tx : Nat → Nat) (tn : Nat) (v : Int32) : Int32 × (Nat → Nat) × Nat := if zBtw v 0 127 then (if tn < 100 then (nI (tn + 1), zup tx tn v.toNatClampNeg, tn + 1) else (-4, tx, tn)) else (-2, tx, tn)
def FrX (f f' : zF) (a a' : zA) : Prop := (∀ k, k ≠ 65 → f' k = f k) ∧ ∀ k, (k < 66 ∨ 71 < k) → a' k = a k
theorem FrX.rf {f : zF} {a : zA} : FrX f f a a := ⟨fun _ _ => rfl, fun _ _ => rfl⟩
theorem i8_nI : ∀ q, q < 128 → (nI q).toInt8.toInt32 = nI q := by decide +kernel
theorem x_feed {sc : Int32 × (Int32 → Int32)} {f : zF} {a : zA} {j : zJ} {d tn : Nat} {tx : Nat → Nat} {v : Int32} (hT : TX tx tn f a) (hV : VX tx tn) : ∃ (f' : zF) (a' : zA), cf sc (d + 3) 62 [.ref 0, .int v] f a j = some (some (.int (fdS tx tn v).1), f', a', j) ∧ TX (fdS tx tn v).2.1 (fdS tx tn v).2.2 f' a' ∧ VX (fdS tx tn v).2.1 (fdS tx tn v).2.2 ∧ FrX f f' a a' := by
  obtain ⟨t1, t2⟩ := hT
  obtain ⟨v1, v2⟩ := hV
  rw [en62]
  unfold fdS
  by_cases hv : zBtw v 0 127
  · rw [if_pos hv]
    by_cases h : tn < 100
    · rw [if_pos h]
      obtain ⟨q, q1, q2, rfl⟩ := zBtw_of (by omega) (by omega) hv
      rw [nI_clamp (n := q) (by omega)]
      have c1 : nI tn < nI 100 := nI_lt h (by omega)
      have ix : zIx 20 66 (nI tn) := ix66 h
      have e8 := i8_nI q (by omega)
      refine ⟨zuF f 65 1 (nI (tn + 1)), zuA a 66 (nI tn) (nI q), ?_, ⟨zuF_eq, fun i hi => ?_⟩, ⟨by dsimp only; omega, fun i hi => ?_⟩, ⟨fun k hk => zuF_nk hk, fun k hk => zuA_nk (by omega)⟩⟩
      · simp only [q62_0, q62_1, q62_4, q62_5, q62_8, en20, q20_0, q20_1, q20_2, q20_4, q20_7, q20_10, q20_12, q20_13, q20_14, q20_17, q20_19, q20_22, q20_24, q20_25, q20_26, q20_29, q20_30, q20_33, q20_34, q20_35, q20_36, q20_37, q20_38, q20_41, q20_42, q20_43, q20_46, q20_47, q20_50, m_isWithin, eq_true hv, t1, c1, ix, e8, zuF_eq, zCall_some, Option.toList, List.cons_append, List.nil_append, zb_0, zb_1, zem, z01, z11, nI_add, ↓reduceIte, not_true_eq_false, not_false_eq_true, n0T, n1F, n11T, true_or, or_true, false_or]
      · dsimp only at hi ⊢
        by_cases e : i = tn
        · rw [e, zup_eq, zuA_eq]
        · rw [zup_ne e, zuA_ni (nI_ne (by omega) (by omega) e)]; exact t2 i (by omega)
      · dsimp only at hi ⊢
        by_cases e : i = tn
        · rw [e, zup_eq]; omega
        · rw [zup_ne e]; exact v2 i (by omega)
    · rw [if_neg h]
      have c1 : ¬ nI tn < nI 100 := nI_nlt (by omega) (by omega)
      refine ⟨f, a, ?_, ⟨t1, t2⟩, ⟨v1, v2⟩, FrX.rf⟩
      simp only [q62_0, q62_1, q62_4, q62_5, q62_8, en20, q20_0, q20_1, q20_2, q20_4, q20_7, q20_10, q20_12, q20_13, q20_14, q20_17, q20_19, q20_22, q20_24, q20_25, q20_26, q20_29, q20_30, q20_33, q20_34, q20_35, q20_36, q20_37, q20_38, q20_41, q20_42, q20_43, q20_46, q20_47, q20_50, m_isWithin, eq_true hv, t1, c1, zCall_some, Option.toList, List.cons_append, List.nil_append, zb_0, zb_1, zem, z01, z11, nI_add, ↓reduceIte, not_true_eq_false, not_false_eq_true, n0T, n1F, n11T, true_or, or_true, false_or]
  · rw [if_neg hv]
    refine ⟨f, a, ?_, ⟨t1, t2⟩, ⟨v1, v2⟩, FrX.rf⟩
    simp only [q62_0, q62_1, q62_4, q62_5, q62_8, en20, q20_0, q20_1, q20_2, q20_4, q20_7, q20_10, q20_12, q20_13, q20_14, q20_17, q20_19, q20_22, q20_24, q20_25, q20_26, q20_29, q20_30, q20_33, q20_34, q20_35, q20_36, q20_37, q20_38, q20_41, q20_42, q20_43, q20_46, q20_47, q20_50, m_isWithin, eq_false hv, zCall_some, Option.toList, List.cons_append, List.nil_append, zb_0, zb_1, zem, z01, z11, nI_add, ↓reduceIte, not_true_eq_false, not_false_eq_true, n0T, n1F, n11T, true_or, or_true, false_or]
