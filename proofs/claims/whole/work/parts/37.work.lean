/-! ===== the class: setTimes, workOut ===== -/
theorem tmS_s (σ : Nat → Nat) (L : List Nat) (hv : Nat → Nat) (i : Nat) : tmS σ L hv (i + 1) = tmS σ L hv i + lgA σ L i + hv (L.getD i 0) := rfl
theorem m_setTimes {sc : Int32 × (Int32 → Int32)} {f : zF} {a : zA} {j : zJ} {d : Nat} {σ : Nat → Nat} {L : List Nat} {hv : Nat → Nat} (hl : L.length ≤ 8) (hL : ∀ q, q < L.length → L.getD q 0 < 8) (hf : f 54 10 = nI L.length) (hA : zLst a 56 L) (hg : ∀ i, i < L.length → a 57 (nI i) = nI (lgA σ L i)) (hh : ∀ i, i < L.length → a 59 (nI (L.getD i 0)) = nI (hv (L.getD i 0))) :
    ∃ a' : zA, cf sc (d + 4) 42 [.ref 54] f a j = some (none, f, a', j) ∧ (∀ i, i < L.length → a' 62 (nI i) = nI (tmS σ L hv i + lgA σ L i) ∧ a' 63 (nI i) = nI (tmS σ L hv (i + 1))) ∧ ∀ k, k ≠ 62 → k ≠ 63 → a' k = a k := by
  have key := zLoopP (n := L.length) (g := fun s : (Nat × zA) => rn sc (cf sc (d + 3)) 42 4 [.ref 54, .int (nI (tmS σ L hv s.1)), .int (nI s.1)] [] f s.2 j) (P := fun i s => s.1 = i ∧ (∀ q, q < i → s.2 62 (nI q) = nI (tmS σ L hv q + lgA σ L q) ∧ s.2 63 (nI q) = nI (tmS σ L hv (q + 1))) ∧ ∀ k, k ≠ 62 → k ≠ 63 → s.2 k = a k) (by
    intro i s hi hP
    obtain ⟨i', a1⟩ := s
    obtain ⟨rfl, h1, h2⟩ := hP
    dsimp only at h1 h2 hi
    have h8 := hL i' hi
    have c1 : ¬ nI L.length ≤ nI i' := nI_ge hi (by omega)
    have ix1 : zIx 21 56 (nI i') := ix56 (by omega)
    have ix2 : zIx 21 57 (nI i') := ix57 (by omega)
    have ix3 : zIx 21 62 (nI i') := ix62 (by omega)
    have ix5 : zIx 21 63 (nI i') := ix63 (by omega)
    have e1 : ∀ x y : Int32, zuA a1 62 x y 56 (nI i') = nI (L.getD i' 0) := fun x y => by rw [zuA_nk (by omega), h2 56 (by omega) (by omega)]; exact hA i' hi
    have e2 : a1 57 (nI i') = nI (lgA σ L i') := by rw [h2 57 (by omega) (by omega)]; exact hg i' hi
    have e3 : ∀ x y : Int32, zuA a1 62 x y 59 (nI (L.getD i' 0)) = nI (hv (L.getD i' 0)) := fun x y => by rw [zuA_nk (by omega), h2 59 (by omega) (by omega)]; exact hh i' hi
    refine ⟨(i' + 1, zuA (zuA a1 62 (nI i') (nI (tmS σ L hv i' + lgA σ L i'))) 63 (nI i') (nI (tmS σ L hv (i' + 1)))), ⟨rfl, fun q hq => ?_, fun k k1 k2 => (zuA_nk k2).trans ((zuA_nk k1).trans (h2 k k1 k2))⟩, ?_⟩
    · dsimp only
      by_cases e : q = i'
      · rw [e]
        exact ⟨by rw [zuA_nk (by omega)]; exact zuA_eq, zuA_eq⟩
      · have hne : nI q ≠ nI i' := nI_ne (by omega) (by omega) e
        rw [zuA_ni hne, zuA_ni hne, zuA_ni hne, zuA_ni hne]
        exact h1 q (by omega)
    · dsimp only
      rw [q42_4, tmS_s]
      simp only [q42_0, q42_1, q42_2, q42_3, q42_5, q42_6, q42_9, q42_12, q42_13, q42_14, q42_17, q42_18, q42_19, q42_20, q42_21, q42_22, q42_25, q42_26, q42_27, q42_28, q42_29, q42_30, q42_31, q42_34, q42_35, q42_36, q42_39, q42_40, q42_41, q42_42, q42_45, q42_46, q42_47, q42_48, q42_51, q42_54, hf, c1, ix1, ix2, ix3, ix5, m_hoursOf h8, e1, e2, e3, zCall_some, Option.toList, List.cons_append, List.nil_append, zb_0, zb_1, zem, z01, z11, nI_add, ↓reduceIte, not_true_eq_false, not_false_eq_true, n0T, n1F, n11T, true_or, or_true, false_or]) (0, a) ⟨rfl, fun q hq => by omega, fun _ _ _ => rfl⟩
  obtain ⟨⟨i, a'⟩, ⟨hi, h1, h2⟩, e⟩ := key
  dsimp only at h1 h2 e hi
  subst hi
  refine ⟨a', ?_, h1, h2⟩
  have c1 : nI L.length ≤ nI L.length := nI_le (Nat.le_refl _) (by omega)
  rw [en42, q42_0, q42_1, q42_2, q42_3]
  refine Eq.trans e ?_
  simp only [q42_4, q42_5, q42_6, q42_9, q42_54, hf, c1, zCall_some, Option.toList, List.cons_append, List.nil_append, zb_0, zb_1, zem, z01, z11, nI_add, ↓reduceIte, not_true_eq_false, not_false_eq_true, n0T, n1F, n11T, true_or, or_true, false_or]
theorem m_max {sc : Int32 × (Int32 → Int32)} {f : zF} {a : zA} {j : zJ} {d : Nat} {x y : Int32} : cf sc (d + 1) 182 [.int x, .int y] f a j = some (some (.int (if x < y then y else x)), f, a, j) := by
  rw [en182]
  simp only [q182_0, q182_1, q182_2, q182_5, q182_6, q182_9, q182_10, zCall_some, Option.toList, List.cons_append, List.nil_append, zb_0, zb_1, zem, z01, z11, nI_add, ↓reduceIte, not_true_eq_false, not_false_eq_true, n0T, n1F, n11T, true_or, or_true, false_or]
  split <;> rfl
theorem m_min {sc : Int32 × (Int32 → Int32)} {f : zF} {a : zA} {j : zJ} {d : Nat} {x y : Int32} : cf sc (d + 1) 183 [.int x, .int y] f a j = some (some (.int (if y < x then y else x)), f, a, j) := by
  rw [en183]
  simp only [q183_0, q183_1, q183_2, q183_5, q183_6, q183_9, q183_10, zCall_some, Option.toList, List.cons_append, List.nil_append, zb_0, zb_1, zem, z01, z11, nI_add, ↓reduceIte, not_true_eq_false, not_false_eq_true, n0T, n1F, n11T, true_or, or_true, false_or]
  split <;> rfl
theorem max_left {p q : Nat} (hp : p < 2 ^ 30) (hq : q < 2 ^ 30) : (if nI p - nI q < nI 0 then nI 0 else nI p - nI q) = nI (p - q) := by
  rcases Nat.lt_or_ge p q with h | h
  · rw [if_pos (by have := pk_sneg hq h; rw [n0]; exact this), show p - q = 0 by omega]
  · rw [pk_sub h, if_neg]
    rw [n0]
    exact nI_pos (by omega)
/-- TRADES can be done, one behind the other -/
def TrOK (σ : Nat → Nat) (w : Nat) : Prop := σ 4 ≤ 12 ∧ ∀ k, k < σ 4 → σ (40 + k) < σ 0 ∧ σ (52 + k) < σ 0 ∧ σ (64 + k) ≤ hvT σ w k (σ (40 + k))
/-- the Turns' cells hold what is worked out for WEEK w -/
def TuO (σ : Nat → Nat) (w : Nat) (tr : Bool) (f : zF) (a : zA) : Prop :=
  f 54 9 = nI (σ 0) ∧ f 54 10 = nI (oL σ w).length ∧ f 54 11 = nI (lagAll σ w) ∧ f 54 12 = nI (leftOf σ w) ∧ f 54 13 = nI (w * σ 1 % 24) ∧ zLst a 55 (lnO σ 4) ∧ zLst a 56 (oL σ w) ∧
  (∀ i, i < (oL σ w).length → a 57 (nI i) = nI (lgA σ (oL σ w) i)) ∧ (∀ g, g < σ 0 → a 59 (nI g) = nI (hvOf σ w tr g)) ∧ (∀ g, g < 8 → a 61 (nI g) = plS σ w (σ 0) g) ∧
  (∀ i, i < (oL σ w).length → a 62 (nI i) = nI (tmS σ (oL σ w) (hvOf σ w tr) i + lgA σ (oL σ w) i) ∧ a 63 (nI i) = nI (tmS σ (oL σ w) (hvOf σ w tr) (i + 1))) ∧ ∀ g, σ 0 ≤ g → g < 8 → a 59 (nI g) = nI 0
theorem hvT_z (σ : Nat → Nat) (w : Nat) : hvT σ w 0 = hvA σ w (σ 0) := rfl
theorem oL_le {σ : Nat → Nat} (hV : VR σ) (w : Nat) : (oL σ w).length ≤ 8 := by
  have h1 := oS_len (σ := σ) (w := w) (σ 0)
  have h2 := hV.1
  unfold oL
  omega
theorem lag_le {σ : Nat → Nat} (hV : VR σ) (w : Nat) : lagAll σ w ≤ 288 := by
  have h1 := lgS_le hV (L := oL σ w) (oL σ w).length (fun q hq => (hV.2.2.1 _ (oL_lt hV hq)).1)
  have h2 := oL_le hV w
  unfold lagAll
  omega
theorem m_workOut {sc : Int32 × (Int32 → Int32)} {f : zF} {a : zA} {j : zJ} {d c w : Nat} {σ : Nat → Nat} {tr : Bool} (hc : isC c) (hV : VR σ) (hw : w ≤ 1010) (hr : σ 2 ≤ 3) (hR : CR0 c σ f a) (hT : tr = true → TrOK σ w) :
    ∃ (f' : zF) (a' : zA), cf sc (d + 5) 30 [.ref 54, .ref c, .int (nI w), .int (nI (σ 1)), .int (nI (σ 2)), .int (nI (if tr = true then 1 else 0))] f a j = some (none, f', a', j) ∧ TuO σ w tr f' a' ∧ (∀ k, (k < 55 ∨ 63 < k) → a' k = a k) ∧ ∀ k, k ≠ 54 → f' k = f k := by
  have hn := hV.1
  have hh := hV.2.1
  have hcl := isC_lt hc
  have hlen := oL_le hV w
  have hlag := lag_le hV w
  have hm : w * σ 1 < 2 ^ 30 := by
    have : w * σ 1 ≤ 1010 * 97 := Nat.mul_le_mul hw hh
    omega
  -- the parts, one behind the other
  have hR2 : CR0 c σ (zuF (zuF f 54 9 (nI (σ 0))) 54 13 (nI (w * σ 1 % 24))) a := hR.of hc (fun q hq => by rw [zuF_nk (by omega), zuF_nk (by omega)]) (fun _ _ => rfl)
  obtain ⟨a1, s1, s2, s3⟩ := m_standInLine (sc := sc) (d := d + 3) (f := zuF (zuF f 54 9 (nI (σ 0))) 54 13 (nI (w * σ 1 % 24))) (a := a) (j := j) hc hV hR2 (by rw [zuF_ni (by omega), zuF_eq])
  have hR3 : CR0 c σ (zuF (zuF f 54 9 (nI (σ 0))) 54 13 (nI (w * σ 1 % 24))) a1 := hR2.of hc (fun _ _ => rfl) (fun q hq => s3 q (by omega))
  obtain ⟨f2, a2, t1, t2, t3, t4, t5⟩ := m_takeOrder (sc := sc) (d := d) (f := zuF (zuF f 54 9 (nI (σ 0))) 54 13 (nI (w * σ 1 % 24))) (a := a1) (j := j) hc hV hw hr (by rw [zuF_ni (by omega), zuF_eq]) hR3 s2
  have hR4 : CR0 c σ f2 a2 := hR3.of hc (fun q hq => t4 q (by omega)) (fun q hq => t3 q (by omega) (by omega))
  obtain ⟨t2a, t2b, t2c⟩ := t2
  obtain ⟨f3, a3, u1, u2, u3, u4, u5⟩ := m_countLags (sc := sc) (d := d) (f := f2) (a := a2) (j := j) (L := oL σ w) hc hV hlen (fun q hq => oL_lt hV hq) t2a t2b hR4
  obtain ⟨u2a, u2b⟩ := u2
  have hR5 : CR0 c σ (zuF f3 54 12 (nI (leftOf σ w))) a3 := hR4.of hc (fun q hq => by rw [zuF_nk (by omega), u4 q (by omega)]) (fun q hq => u3 q (by omega))
  have e9 : f3 54 9 = nI (σ 0) := by rw [u5 9 (by omega), t5 9 (by omega), zuF_ni (by omega), zuF_eq]
  obtain ⟨a4, g1, g2, g0, g3⟩ := m_giveHours (sc := sc) (d := d + 1) (f := zuF f3 54 12 (nI (leftOf σ w))) (a := a3) (j := j) (w := w) hc hV (by rw [zuF_ni (by omega)]; exact e9) zuF_eq hR5
  have hR6 : CR0 c σ (zuF f3 54 12 (nI (leftOf σ w))) a4 := hR5.of hc (fun _ _ => rfl) (fun q hq => g3 q (by omega) (by omega) (by omega))
  have mv : ∃ a5 : zA, (tr = true → cf sc (d + 4) 40 [.ref 54, .ref (c + 5)] (zuF f3 54 12 (nI (leftOf σ w))) a4 j = some (none, zuF f3 54 12 (nI (leftOf σ w)), a5, j)) ∧ (tr = false → a5 = a4) ∧ (∀ g, g < σ 0 → a5 59 (nI g) = nI (hvOf σ w tr g)) ∧ (∀ g, σ 0 ≤ g → g < 8 → a5 59 (nI g) = nI 0) ∧ ∀ k, k ≠ 59 → a5 k = a4 k := by
    cases tr with
    | false => exact ⟨a4, fun q => (by cases q), fun _ => rfl, g2, g0, fun _ _ => rfl⟩
    | true =>
      obtain ⟨k1, k2⟩ := hT rfl
      obtain ⟨a5, m1, m2, m5, m3⟩ := m_moveTraded (sc := sc) (d := d) (f := zuF f3 54 12 (nI (leftOf σ w))) (a := a4) (j := j) (r := c + 5) (n := σ 0) (w := w) (σ := σ) (isC_R hc) (by rcases hc with rfl | rfl | rfl <;> rfl) (by omega) hn k1 hR6.2.2.2.2.1 hR6.2.2.2.2.2 (fun k hk => ⟨(k2 k hk).1, (k2 k hk).2.1⟩) (fun k hk => (k2 k hk).2.2) g2
      exact ⟨a5, fun _ => m1, fun q => (by cases q), m2, fun g q1 q2 => by rw [m5 g q1 q2]; exact g0 g q1 q2, m3⟩
  obtain ⟨a5, m1, m0, m2, m5, m3⟩ := mv
  have ka5 : ∀ k, k ≠ 59 → k ≠ 58 → k ≠ 60 → a5 k = a3 k := fun k k1 k2 k3 => by rw [m3 k k1, g3 k k1 k2 k3]
  obtain ⟨a6, w1, w2, w3⟩ := m_setTimes (sc := sc) (d := d) (f := zuF f3 54 12 (nI (leftOf σ w))) (a := a5) (j := j) (σ := σ) (L := oL σ w) (hv := hvOf σ w tr) hlen (fun q hq => by have := oL_lt hV hq; omega) (by rw [zuF_ni (by omega), u5 10 (by omega)]; exact t2a) (zLst_of t2b (by rw [ka5 56 (by omega) (by omega) (by omega), u3 56 (by omega)])) (fun i hi => by rw [ka5 57 (by omega) (by omega) (by omega)]; exact u2b i hi) (fun i hi => m2 _ (oL_lt hV hi))
  refine ⟨zuF f3 54 12 (nI (leftOf σ w)), a6, ?_, ?_, ?_, ?_⟩
  · have e24 : nI w * nI (σ 1) = nI (w * σ 1) := pk_mul _ _
    have eL : f3 54 11 = nI (lagAll σ w) := u2a
    have emx : (if nI (σ 1) - nI (lagAll σ w) < nI 0 then nI 0 else nI (σ 1) - nI (lagAll σ w)) = nI (leftOf σ w) := max_left (p := σ 1) (q := lagAll σ w) (by omega) (by omega)
    rw [en30]
    cases tr with
    | false =>
      have m0 := m0 rfl
      subst m0
      simp only [q30_0, q30_1, q30_2, q30_5, q30_8, q30_9, q30_10, q30_11, q30_12, q30_14, q30_17, q30_20, q30_21, q30_22, q30_25, q30_26, q30_27, q30_28, q30_30, q30_33, q30_34, q30_35, q30_38, q30_39, q30_40, q30_41, q30_44, q30_45, q30_46, q30_49, q30_52, q30_53, q30_54, q30_57, q30_59, q30_62, q30_63, q30_64, q30_67, q30_70, q30_71, q30_74, hc, hR.1, e24, m_fmPos (p := w * σ 1) (n := 24) (by omega) (by omega) (by omega), s1, t1, u1, eL, m_max, emx, g1, w1, Bool.false_eq_true, n0T, zCall_some, Option.toList, List.cons_append, List.nil_append, zb_0, zb_1, zem, z01, z11, nI_add, ↓reduceIte, not_true_eq_false, not_false_eq_true, n0T, n1F, n11T, true_or, or_true, false_or]
    | true =>
      simp only [q30_0, q30_1, q30_2, q30_5, q30_8, q30_9, q30_10, q30_11, q30_12, q30_14, q30_17, q30_20, q30_21, q30_22, q30_25, q30_26, q30_27, q30_28, q30_30, q30_33, q30_34, q30_35, q30_38, q30_39, q30_40, q30_41, q30_44, q30_45, q30_46, q30_49, q30_52, q30_53, q30_54, q30_57, q30_59, q30_62, q30_63, q30_64, q30_67, q30_70, q30_71, q30_74, hc, hR.1, e24, m_fmPos (p := w * σ 1) (n := 24) (by omega) (by omega) (by omega), s1, t1, u1, eL, m_max, emx, g1, w1, m1 rfl, n1F, zCall_some, Option.toList, List.cons_append, List.nil_append, zb_0, zb_1, zem, z01, z11, nI_add, ↓reduceIte, not_true_eq_false, not_false_eq_true, n0T, n1F, n11T, true_or, or_true, false_or]
  · refine ⟨by rw [zuF_ni (by omega)]; exact e9, by rw [zuF_ni (by omega), u5 10 (by omega)]; exact t2a, by rw [zuF_ni (by omega)]; exact u2a, zuF_eq, by rw [zuF_ni (by omega), u5 13 (by omega), t5 13 (by omega), zuF_eq], ?_, ?_, ?_, ?_, ?_, w2, fun g q1 q2 => by rw [w3 59 (by omega) (by omega)]; exact m5 g q1 q2⟩
    · exact zLst_of s2 (by rw [w3 55 (by omega) (by omega), ka5 55 (by omega) (by omega) (by omega), u3 55 (by omega), t3 55 (by omega) (by omega)])
    · exact zLst_of t2b (by rw [w3 56 (by omega) (by omega), ka5 56 (by omega) (by omega) (by omega), u3 56 (by omega)])
    · intro i hi
      rw [w3 57 (by omega) (by omega), ka5 57 (by omega) (by omega) (by omega)]
      exact u2b i hi
    · intro g hg
      rw [w3 59 (by omega) (by omega)]
      exact m2 g hg
    · intro g hg
      rw [w3 61 (by omega) (by omega), ka5 61 (by omega) (by omega) (by omega), u3 61 (by omega)]
      exact t2c g hg
  · intro k hk
    rw [w3 k (by omega) (by omega), ka5 k (by omega) (by omega) (by omega), u3 k (by omega), t3 k (by omega) (by omega), s3 k (by omega)]
  · intro k hk
    rw [zuF_nk hk, u4 k hk, t4 k hk, zuF_nk hk, zuF_nk hk]
