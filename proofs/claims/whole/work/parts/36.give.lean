/-! ===== the class: giveHours, moveTraded, setTimes ===== -/
theorem hvA_s (σ : Nat → Nat) (w i : Nat) : hvA σ w (i + 1) = if σ (32 + i) = 1 then fun g => (if g = i then 0 else hvA σ w i g) + shr σ (hvA σ w i i) (toB σ i) g else hvA σ w i := rfl
theorem hvA_le {σ : Nat → Nat} (hV : VR σ) (w : Nat) : ∀ i, i ≤ σ 0 → ∀ g, g < σ 0 → hvA σ w i g + 8 ≤ 113 * 2 ^ i
  | 0, _, g, hg => by
    have h1 := shr_le hV (m := leftOf σ w) (S := alB σ) hg
    have h2 : leftOf σ w ≤ 97 := by unfold leftOf; have := hV.2.1; omega
    show shr σ (leftOf σ w) (alB σ) g + 8 ≤ _
    omega
  | i + 1, hi, g, hg => by
    have ih := hvA_le hV w i (by omega)
    have h0 := ih g hg
    have h1 := ih i (by omega)
    rw [hvA_s, Nat.pow_succ]
    split
    · have h2 := shr_le hV (m := hvA σ w i i) (S := toB σ i) hg
      dsimp only
      split <;> omega
    · omega
theorem hvA_24 {σ : Nat → Nat} (hV : VR σ) {w i g : Nat} (hi : i ≤ σ 0) (hg : g < σ 0) : hvA σ w i g ≤ 28928 := by
  have h := hvA_le hV w i hi g hg
  have h2 : 2 ^ i ≤ 2 ^ 8 := Nat.pow_le_pow_right (by omega) (by have := hV.1; omega)
  omega
theorem zcA_in {a : zA} {q d m i : Nat} (h : i < m) (hm : m < 2 ^ 31) : zcA a q d (nI 0) (nI 0) (nI m) d (nI i) = a q (nI i) := by
  unfold zcA
  rw [nI_clamp (n := i) (by omega), nI_clamp (n := 0) (by omega), nI_clamp hm, if_pos ⟨rfl, nI_pos (by omega), by omega, by omega⟩]
  congr 2
  omega
theorem zcA_nk {a : zA} {q d k : Nat} {sp dp n : Int32} (h : k ≠ d) : zcA a q d sp dp n k = a k := by
  funext i
  unfold zcA
  rw [if_neg (fun z => h z.1)]
theorem zCp_of {kd q d m : Nat} (h1 : zKd q = kd) (h2 : zKd d = kd) (h3 : m ≤ zLn q) (h4 : m ≤ zLn d) : zCp kd q d (nI 0) (nI 0) (nI m) := by
  have := zLn_le q
  refine ⟨⟨h1, h2⟩, ⟨nI_pos (by omega), nI_pos (by omega), nI_pos (by omega)⟩, ?_, ?_⟩ <;> rw [nI_clamp (n := 0) (by omega), nI_clamp (by omega)] <;> omega
theorem gh_in {sc : Int32 × (Int32 → Int32)} {d : Nat} {f : zF} {j : zJ} {c w : Nat} {σ : Nat → Nat} {P : Int32} (hc : isC c) (hV : VR σ) (hf : f 54 9 = nI (σ 0)) (hP : ∀ g, g < 32 → bt P g = prB σ g) : ∀ (m i : Nat) (a : zA) (v4 : Value), i + m = σ 0 → CR0 c σ f a → (∀ g, g < σ 0 → a 59 (nI g) = nI (hvA σ w i g)) →
    ∃ a' : zA, rn sc (cf sc (d + 2)) 36 42 [.ref 54, .ref c, .int P, .int (nI i), v4] [] f a j = some (none, f, a', j) ∧ (∀ g, g < σ 0 → a' 59 (nI g) = nI (hvA σ w (σ 0) g)) ∧ (∀ g, σ 0 ≤ g → g < 8 → a' 59 (nI g) = a 59 (nI g)) ∧ ∀ k, k ≠ 59 → k ≠ 58 → k ≠ 60 → a' k = a k := by
  have hn := hV.1
  have hcl := isC_lt hc
  intro m
  induction m with
  | zero =>
    intro i a v4 hi hR hA
    have e : i = σ 0 := by omega
    subst e
    have c1 : nI (σ 0) ≤ nI (σ 0) := nI_le (Nat.le_refl _) (by omega)
    refine ⟨a, ?_, hA, fun _ _ _ => rfl, fun _ _ _ _ => rfl⟩
    simp only [q36_42, q36_43, q36_44, q36_47, q36_111, hf, c1, zCall_some, Option.toList, List.cons_append, List.nil_append, zb_0, zb_1, zem, z01, z11, nI_add, ↓reduceIte, not_true_eq_false, not_false_eq_true, n0T, n1F, n11T, true_or, or_true, false_or]
  | succ m ih =>
    intro i a v4 hi hR hA
    have hin : i < σ 0 := by omega
    have c1 : ¬ nI (σ 0) ≤ nI i := nI_ge hin (by omega)
    have h4 := (hV.2.2.1 i hin).1
    rw [q36_42]
    by_cases haw : σ (32 + i) = 1
    · have ix3 : zIx 21 (c + 3) (nI i) := ixC3 hc (by omega)
      have ix8 : zIx 21 59 (nI i) := ix59 (by omega)
      have hnr : ∀ g, g < 32 → bt (btS (fun g => decide (σ (16 + g) = σ (16 + i))) (σ 0) &&& P) g = nrB σ i g := by
        intro g hg
        rw [b_and, btS_bt _ _ hn g hg, hP g hg]
        exact nrB_at
      have hz := nr_zero hV hnr
      have hm : hvA σ w i i ≤ 2 ^ 24 := by have := hvA_24 hV (w := w) (i := i) (g := i) (by omega) hin; omega
      have hX : ∃ X : Int32, (∀ g, g < 8 → bt X g = toB σ i g) ∧ (if btS (fun g => decide (σ (16 + g) = σ (16 + i))) (σ 0) &&& P = 0 then P else btS (fun g => decide (σ (16 + g) = σ (16 + i))) (σ 0) &&& P) = X := by
        refine ⟨_, fun g hg => ?_, rfl⟩
        unfold toB
        by_cases q : anB σ i (σ 0) = true
        · rw [if_pos q, if_neg (fun z => hz.mp z q)]
          exact hnr g (by omega)
        · rw [if_neg q, if_pos (hz.mpr q)]
          exact hP g (by omega)
      obtain ⟨X, hX1, hX2⟩ := hX
      obtain ⟨a1, s1, s2, s3⟩ := m_shareOut (sc := sc) (d := d) (f := f) (j := j) (a := a) hc hV hm hX1 (fun g hg => toB_off hg) hR
      obtain ⟨a2, t1, t2, t0, t3⟩ := m_addParts (sc := sc) (d := d + 1) (f := f) (j := j) (a := zuA a1 59 (nI i) (nI 0)) (x := fun g => if g = i then 0 else hvA σ w i g) (y := shr σ (hvA σ w i i) (toB σ i)) hn hf (fun g hg => by
        by_cases e : g = i
        · rw [if_pos e, e]; exact zuA_eq
        · rw [if_neg e, zuA_ni (nI_ne (by omega) (by omega) e), s3 59 (by omega) (by omega)]; exact hA g hg) (fun g hg => by rw [zuA_nk (by omega)]; exact s2 g (by omega))
      obtain ⟨a3, h1, h2, h0, h3⟩ := ih (i + 1) a2 (.int (btS (fun g => decide (σ (16 + g) = σ (16 + i))) (σ 0) &&& P)) (by omega) (hR.of hc (fun _ _ => rfl) (fun q hq => by rw [t3 q (by omega), zuA_nk (by omega), s3 q (by omega) (by omega)])) (fun g hg => by rw [t2 g hg, hvA_s, if_pos haw])
      refine ⟨a3, ?_, h2, fun g g1 g2 => by rw [h0 g g1 g2, t0 g g1 g2, zuA_ni (nI_ne (by omega) (by omega) (by omega)), s3 59 (by omega) (by omega)], fun k k1 k2 k3 => by rw [h3 k k1 k2 k3, t3 k k1, zuA_nk k1, s3 k k2 k3]⟩
      rw [← h1]
      by_cases hb : btS (fun g => decide (σ (16 + g) = σ (16 + i))) (σ 0) &&& P = 0
      · rw [if_pos hb] at hX2
        subst hX2
        simp only [q36_0, q36_1, q36_2, q36_3, q36_6, q36_7, q36_10, q36_13, q36_14, q36_17, q36_18, q36_19, q36_22, q36_23, q36_25, q36_28, q36_29, q36_32, q36_33, q36_36, q36_37, q36_38, q36_39, q36_40, q36_41, q36_43, q36_44, q36_47, q36_50, q36_51, q36_52, q36_55, q36_58, q36_59, q36_60, q36_63, q36_64, q36_65, q36_68, q36_69, q36_70, q36_72, q36_73, q36_74, q36_75, q36_78, q36_79, q36_80, q36_82, q36_85, q36_87, q36_90, q36_91, q36_94, q36_95, q36_98, q36_99, q36_100, q36_101, q36_102, q36_105, q36_108, q36_111, hf, c1, hc, ix3, ix8, m_isAway hc hV hR hin, haw, (hR.2.2.2.1 i hin).1, m_bitsOn hc hV hR h4, hb, hA i hin, s1, t1, zCall_some, Option.toList, List.cons_append, List.nil_append, zb_0, zb_1, zem, z01, z11, nI_add, ↓reduceIte, not_true_eq_false, not_false_eq_true, n0T, n1F, n11T, true_or, or_true, false_or]
      · rw [if_neg hb] at hX2
        subst hX2
        simp only [q36_0, q36_1, q36_2, q36_3, q36_6, q36_7, q36_10, q36_13, q36_14, q36_17, q36_18, q36_19, q36_22, q36_23, q36_25, q36_28, q36_29, q36_32, q36_33, q36_36, q36_37, q36_38, q36_39, q36_40, q36_41, q36_43, q36_44, q36_47, q36_50, q36_51, q36_52, q36_55, q36_58, q36_59, q36_60, q36_63, q36_64, q36_65, q36_68, q36_69, q36_70, q36_72, q36_73, q36_74, q36_75, q36_78, q36_79, q36_80, q36_82, q36_85, q36_87, q36_90, q36_91, q36_94, q36_95, q36_98, q36_99, q36_100, q36_101, q36_102, q36_105, q36_108, q36_111, hf, c1, hc, ix3, ix8, m_isAway hc hV hR hin, haw, (hR.2.2.2.1 i hin).1, m_bitsOn hc hV hR h4, hb, hA i hin, s1, t1, zCall_some, Option.toList, List.cons_append, List.nil_append, zb_0, zb_1, zem, z01, z11, nI_add, ↓reduceIte, not_true_eq_false, not_false_eq_true, n0T, n1F, n11T, true_or, or_true, false_or]
    · obtain ⟨a3, h1, h2, h0, h3⟩ := ih (i + 1) a v4 (by omega) hR (fun g hg => by rw [hvA_s, if_neg haw]; exact hA g hg)
      refine ⟨a3, ?_, h2, h0, h3⟩
      rw [← h1]
      simp only [q36_0, q36_1, q36_2, q36_3, q36_6, q36_7, q36_10, q36_13, q36_14, q36_17, q36_18, q36_19, q36_22, q36_23, q36_25, q36_28, q36_29, q36_32, q36_33, q36_36, q36_37, q36_38, q36_39, q36_40, q36_41, q36_43, q36_44, q36_47, q36_50, q36_51, q36_52, q36_55, q36_58, q36_59, q36_60, q36_63, q36_64, q36_65, q36_68, q36_69, q36_70, q36_72, q36_73, q36_74, q36_75, q36_78, q36_79, q36_80, q36_82, q36_85, q36_87, q36_90, q36_91, q36_94, q36_95, q36_98, q36_99, q36_100, q36_101, q36_102, q36_105, q36_108, q36_111, hf, c1, hc, m_isAway hc hV hR hin, haw, zCall_some, Option.toList, List.cons_append, List.nil_append, zb_0, zb_1, zem, z01, z11, nI_add, ↓reduceIte, not_true_eq_false, not_false_eq_true, n0T, n1F, n11T, true_or, or_true, false_or]
theorem m_giveHours {sc : Int32 × (Int32 → Int32)} {f : zF} {a : zA} {j : zJ} {d c w : Nat} {σ : Nat → Nat} (hc : isC c) (hV : VR σ) (hf : f 54 9 = nI (σ 0)) (hl : f 54 12 = nI (leftOf σ w)) (hR : CR0 c σ f a) :
    ∃ a' : zA, cf sc (d + 3) 36 [.ref 54, .ref c] f a j = some (none, f, a', j) ∧ (∀ g, g < σ 0 → a' 59 (nI g) = nI (hvA σ w (σ 0) g)) ∧ (∀ g, σ 0 ≤ g → g < 8 → a' 59 (nI g) = nI 0) ∧ ∀ k, k ≠ 59 → k ≠ 58 → k ≠ 60 → a' k = a k := by
  have hn := hV.1
  have hcl := isC_lt hc
  have hlf : leftOf σ w ≤ 97 := by unfold leftOf; have := hV.2.1; omega
  obtain ⟨a1, s1, s2, s3⟩ := m_shareOut (sc := sc) (d := d) (f := f) (j := j) (a := a) (w := leftOf σ w) (S := alB σ) (x := (nI 1 <<< (nI (σ 0) &&& 31)) - nI 1) hc hV (by omega) (fun g hg => by rw [bt_all _ hn g (by omega)]; rfl) (fun g hg => by unfold alB; simp; omega) hR
  have hR1 : CR0 c σ f (zcA a1 58 59 (nI 0) (nI 0) (nI 8)) := hR.of hc (fun _ _ => rfl) (fun q hq => by rw [zcA_nk (by omega), s3 q (by omega) (by omega)])
  obtain ⟨a2, h1, h2, h0, h3⟩ := gh_in (sc := sc) (d := d) (f := f) (j := j) (w := w) (P := ((nI 1 <<< (nI (σ 0) &&& 31)) - nI 1) &&& (f c 5 ^^^ (-1))) hc hV hf (fun g hg => bt_pr hV hR hg) (σ 0) 0 (zcA a1 58 59 (nI 0) (nI 0) (nI 8)) .null (by omega) hR1 (fun g hg => by rw [zcA_in (by omega) (by omega), s2 g (by omega)]; rfl)
  have hcp : zCp 21 58 59 (nI 0) (nI 0) (nI 8) := zCp_of rfl rfl (by decide) (by decide)
  refine ⟨a2, ?_, h2, fun g g1 g2 => by rw [h0 g g1 g2, zcA_in (by omega) (by omega), s2 g (by omega), shr_off (fun q hq => by unfold alB; exact decide_eq_false (by omega)) g1], fun k k1 k2 k3 => by rw [h3 k k1 k2 k3, zcA_nk k1, s3 k k2 k3]⟩
  rw [en36]
  simp only [q36_0, q36_1, q36_2, q36_3, q36_6, q36_7, q36_10, q36_13, q36_14, q36_17, q36_18, q36_19, q36_22, q36_23, q36_25, q36_28, q36_29, q36_32, q36_33, q36_36, q36_37, q36_38, q36_39, q36_40, q36_41, q36_43, q36_44, q36_47, q36_50, q36_51, q36_52, q36_55, q36_58, q36_59, q36_60, q36_63, q36_64, q36_65, q36_68, q36_69, q36_70, q36_72, q36_73, q36_74, q36_75, q36_78, q36_79, q36_80, q36_82, q36_85, q36_87, q36_90, q36_91, q36_94, q36_95, q36_98, q36_99, q36_100, q36_101, q36_102, q36_105, q36_108, q36_111, hl, hc, m_allBits hc hR, m_allBits hc hR1, s1, hcp, zCall_some, Option.toList, List.cons_append, List.nil_append, zb_0, zb_1, zem, z01, z11, nI_add, ↓reduceIte, not_true_eq_false, not_false_eq_true, n0T, n1F, n11T, true_or, or_true, false_or]
  exact h1
theorem m_moveTraded {sc : Int32 × (Int32 → Int32)} {f : zF} {a : zA} {j : zJ} {d r n w : Nat} {σ : Nat → Nat} (hr : isR r) (hr2 : zLn (r + 1) = 12) (hrl : r + 3 < 54) (hn : n ≤ 8) (h12 : σ 4 ≤ 12) (hz : f r 3 = nI (σ 4)) (hrow : ∀ k, k < σ 4 → a (r + 1) (nI k) = nI (σ (40 + k)) ∧ a (r + 2) (nI k) = nI (σ (52 + k)) ∧ a (r + 3) (nI k) = nI (σ (64 + k))) (hin : ∀ k, k < σ 4 → σ (40 + k) < n ∧ σ (52 + k) < n)
    (hok : ∀ k, k < σ 4 → σ (64 + k) ≤ hvT σ w k (σ (40 + k))) (hA : ∀ g, g < n → a 59 (nI g) = nI (hvT σ w 0 g)) :
    ∃ a' : zA, cf sc (d + 4) 40 [.ref 54, .ref r] f a j = some (none, f, a', j) ∧ (∀ g, g < n → a' 59 (nI g) = nI (hvT σ w (σ 4) g)) ∧ (∀ g, n ≤ g → g < 8 → a' 59 (nI g) = a 59 (nI g)) ∧ ∀ k, k ≠ 59 → a' k = a k := by
  have key := zLoopP (n := σ 4) (g := fun s : (Nat × zA) => rn sc (cf sc (d + 3)) 40 2 [.ref 54, .ref r, .int (nI s.1)] [] f s.2 j) (P := fun i s => s.1 = i ∧ (∀ g, g < n → s.2 59 (nI g) = nI (hvT σ w i g)) ∧ (∀ g, n ≤ g → g < 8 → s.2 59 (nI g) = a 59 (nI g)) ∧ ∀ k, k ≠ 59 → s.2 k = a k) (by
    intro i s hi hP
    obtain ⟨i', a1⟩ := s
    obtain ⟨rfl, h1, h0, h2⟩ := hP
    dsimp only at h1 h0 h2 hi
    obtain ⟨p1, p2⟩ := hin i' hi
    obtain ⟨e1, e2, e3⟩ := hrow i' hi
    have c1 : ¬ nI (σ 4) ≤ nI i' := nI_ge hi (by omega)
    have ix1 : zIx 21 (r + 1) (nI i') := ixR1 hr (by omega)
    have ix2 : zIx 21 (r + 2) (nI i') := ixR2 hr (by omega)
    have ix3 : zIx 21 (r + 3) (nI i') := ixR3 hr (by omega)
    have g1 : σ (40 + i') < 8 := by omega
    have g2 : σ (52 + i') < 8 := by omega
    have s1 : nI (hvT σ w i' (σ (40 + i'))) + -nI (σ (64 + i')) = nI (hvT σ w i' (σ (40 + i')) - σ (64 + i')) := by rw [← Int32.sub_eq_add_neg]; exact pk_sub (hok i' hi)
    have r1 : ∀ (x y : Int32), zuA a1 59 x y (r + 1) = a (r + 1) := fun x y => by rw [zuA_nk (by omega)]; exact h2 _ (by omega)
    have r2 : ∀ (x y : Int32), zuA a1 59 x y (r + 2) = a (r + 2) := fun x y => by rw [zuA_nk (by omega)]; exact h2 _ (by omega)
    have r3 : ∀ (x y : Int32), zuA a1 59 x y (r + 3) = a (r + 3) := fun x y => by rw [zuA_nk (by omega)]; exact h2 _ (by omega)
    have q2 : zuA a1 59 (nI (σ (40 + i'))) (nI (hvT σ w i' (σ (40 + i')) - σ (64 + i'))) 59 (nI (σ (52 + i'))) = nI (if σ (52 + i') = σ (40 + i') then hvT σ w i' (σ (40 + i')) - σ (64 + i') else hvT σ w i' (σ (52 + i'))) := by
      by_cases e : σ (52 + i') = σ (40 + i')
      · rw [if_pos e, e]; exact zuA_eq
      · rw [if_neg e, zuA_ni (nI_ne (by omega) (by omega) e)]; exact h1 _ p2
    refine ⟨(i' + 1, zuA (zuA a1 59 (nI (σ (40 + i'))) (nI (hvT σ w i' (σ (40 + i')) - σ (64 + i')))) 59 (nI (σ (52 + i'))) (nI ((if σ (52 + i') = σ (40 + i') then hvT σ w i' (σ (40 + i')) - σ (64 + i') else hvT σ w i' (σ (52 + i'))) + σ (64 + i')))), ⟨rfl, fun g hg => ?_, fun g q1 q2 => by dsimp only; rw [zuA_ni (nI_ne (by omega) (by omega) (by omega)), zuA_ni (nI_ne (by omega) (by omega) (by omega))]; exact h0 g q1 q2, fun k hk => (zuA_nk hk).trans ((zuA_nk hk).trans (h2 k hk))⟩, ?_⟩
    · show zuA _ 59 _ _ 59 (nI g) = nI (hvM (hvT σ w i') (σ (40 + i')) (σ (52 + i')) (σ (64 + i')) g)
      unfold hvM
      by_cases e : g = σ (52 + i')
      · rw [if_pos e, e]; exact zuA_eq
      · rw [if_neg e, zuA_ni (nI_ne (by omega) (by omega) e)]
        by_cases e' : g = σ (40 + i')
        · rw [if_pos e', e']; exact zuA_eq
        · rw [if_neg e', zuA_ni (nI_ne (by omega) (by omega) e')]; exact h1 g hg
    · dsimp only
      rw [q40_2]
      simp only [q40_0, q40_1, q40_3, q40_4, q40_7, q40_10, q40_11, q40_12, q40_15, q40_16, q40_17, q40_18, q40_21, q40_22, q40_23, q40_24, q40_27, q40_28, q40_29, q40_32, q40_33, q40_34, q40_35, q40_38, q40_39, q40_40, q40_43, q40_46, q40_49, hr, hz, c1, ix1, ix2, ix3, m_addHours g1, m_addHours g2, h2 (r + 1) (by omega), h2 (r + 3) (by omega), e1, e2, e3, h1 _ p1, s1, r1, r2, r3, q2, zCall_some, Option.toList, List.cons_append, List.nil_append, zb_0, zb_1, zem, z01, z11, nI_add, ↓reduceIte, not_true_eq_false, not_false_eq_true, n0T, n1F, n11T, true_or, or_true, false_or]) (0, a) ⟨rfl, hA, fun _ _ _ => rfl, fun _ _ => rfl⟩
  obtain ⟨⟨i, a'⟩, ⟨hi, h1, h0, h2⟩, e⟩ := key
  dsimp only at h1 h0 h2 e hi
  subst hi
  refine ⟨a', ?_, h1, h0, h2⟩
  have c1 : nI (σ 4) ≤ nI (σ 4) := nI_le (Nat.le_refl _) (by omega)
  rw [en40, q40_0, q40_1]
  refine Eq.trans e ?_
  simp only [q40_2, q40_3, q40_4, q40_7, q40_49, hr, hz, c1, zCall_some, Option.toList, List.cons_append, List.nil_append, zb_0, zb_1, zem, z01, z11, nI_add, ↓reduceIte, not_true_eq_false, not_false_eq_true, n0T, n1F, n11T, true_or, or_true, false_or]
