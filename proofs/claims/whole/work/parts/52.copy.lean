/-! ===== the class: copies ===== -/
theorem isR_l2 {r : Nat} (hr : isR r) : zLn (r + 2) = zLn (r + 1) ∧ zLn (r + 3) = zLn (r + 1) ∧ zKd (r + 2) = 21 ∧ zKd (r + 3) = 21 := by rcases hr with rfl | rfl | rfl | rfl | rfl | rfl | rfl | rfl | rfl <;> exact ⟨rfl, rfl, rfl, rfl⟩
theorem m_copyRows {sc : Int32 × (Int32 → Int32)} {f : zF} {a : zA} {j : zJ} {d r r' n : Nat} (hr : isR r) (hr' : isR r') (hne : r + 4 ≤ r' ∨ r' + 4 ≤ r) (hl : zLn (r' + 1) = zLn (r + 1)) (hn : n ≤ zLn (r + 1)) (hf : f r 3 = nI n) :
    ∃ a' : zA, cf sc (d + 2) 19 [.ref r', .ref r] f a j = some (none, zuF f r' 3 (nI n), a', j) ∧ (∀ k, k < n → a' (r' + 1) (nI k) = a (r + 1) (nI k) ∧ a' (r' + 2) (nI k) = a (r + 2) (nI k) ∧ a' (r' + 3) (nI k) = a (r + 3) (nI k)) ∧ ∀ k, (k ≤ r' ∨ r' + 3 < k) → a' k = a k := by
  have h360 := zLn_le (r + 1)
  obtain ⟨l2, l3, k2, k3⟩ := isR_l2 hr
  obtain ⟨l2', l3', k2', k3'⟩ := isR_l2 hr'
  have k1 := isR_k1 hr
  have k1' := isR_k1 hr'
  have hlen : 20 ≤ zKd (r' + 1) ∧ zKd (r' + 1) < 25 := by rw [k1']; omega
  have c1 : ¬ nI (zLn (r + 1)) < nI n := nI_nlt hn (by omega)
  have p1 : zCp 21 (r + 1) (r' + 1) (nI 0) (nI 0) (nI n) := zCp_of k1 k1' hn (by omega)
  have p2 : zCp 21 (r + 2) (r' + 2) (nI 0) (nI 0) (nI n) := zCp_of k2 k2' (by omega) (by omega)
  have p3 : zCp 21 (r + 3) (r' + 3) (nI 0) (nI 0) (nI n) := zCp_of k3 k3' (by omega) (by omega)
  refine ⟨zcA (zcA (zcA a (r + 1) (r' + 1) (nI 0) (nI 0) (nI n)) (r + 2) (r' + 2) (nI 0) (nI 0) (nI n)) (r + 3) (r' + 3) (nI 0) (nI 0) (nI n), ?_, fun k hk => ⟨?_, ?_, ?_⟩, fun k hk => ?_⟩
  · rw [en19]
    simp only [q19_0, q19_1, q19_2, q19_5, q19_6, q19_9, q19_10, q19_13, q19_16, q19_17, q19_20, q19_21, q19_22, q19_25, q19_26, q19_27, q19_30, q19_33, q19_34, q19_37, q19_38, q19_39, q19_42, q19_43, q19_44, q19_47, q19_50, q19_51, q19_54, q19_55, q19_56, q19_59, q19_60, q19_61, q19_64, q19_67, hr, hr', hf, hl, eq_true hlen, m_min, c1, zuF_eq, p1, p2, p3, zCall_some, Option.toList, List.cons_append, List.nil_append, zb_0, zb_1, zem, z01, z11, nI_add, ↓reduceIte, not_true_eq_false, not_false_eq_true, n0T, n1F, n11T, true_or, or_true, false_or]
  · rw [zcA_nk (by omega), zcA_nk (by omega), zcA_in hk (by omega)]
  · rw [zcA_nk (by omega), zcA_in hk (by omega), zcA_nk (by omega)]
  · rw [zcA_in hk (by omega), zcA_nk (by omega), zcA_nk (by omega)]
  · rw [zcA_nk (by omega), zcA_nk (by omega), zcA_nk (by omega)]
theorem isC_far {c c' : Nat} (hc : isC c) (hc' : isC c') (h : c ≠ c') : c + 9 ≤ c' ∨ c' + 9 ≤ c := by
  rcases hc with rfl | rfl | rfl <;> rcases hc' with rfl | rfl | rfl <;> omega
theorem isC_kl {c : Nat} (hc : isC c) : (zKd (c + 1) = 21 ∧ zLn (c + 1) = 4) ∧ (zKd (c + 2) = 21 ∧ zLn (c + 2) = 4) ∧ (zKd (c + 3) = 21 ∧ zLn (c + 3) = 8) ∧ (zKd (c + 4) = 21 ∧ zLn (c + 4) = 8) ∧ zLn (c + 5 + 1) = 12 := by
  rcases hc with rfl | rfl | rfl <;> exact ⟨⟨rfl, rfl⟩, ⟨rfl, rfl⟩, ⟨rfl, rfl⟩, ⟨rfl, rfl⟩, rfl⟩
theorem m_copyCanal {sc : Int32 × (Int32 → Int32)} {f : zF} {a : zA} {j : zJ} {d c c' : Nat} {σ : Nat → Nat} (hc : isC c) (hc' : isC c') (hne : c ≠ c') (hn : σ 0 ≤ 8) (h4 : σ 4 ≤ 12) (hR : CR c σ f a) :
    ∃ (f' : zF) (a' : zA), cf sc (d + 3) 1 [.ref c', .ref c] f a j = some (none, f', a', j) ∧ CR c' σ f' a' ∧ (∀ k, k ≠ c' → k ≠ c' + 5 → f' k = f k) ∧ ∀ k, (k ≤ c' ∨ c' + 8 < k) → a' k = a k := by
  have hfar := isC_far hc hc' hne
  obtain ⟨⟨x1, y1⟩, ⟨x2, y2⟩, ⟨x3, y3⟩, ⟨x4, y4⟩, y5⟩ := isC_kl hc
  obtain ⟨⟨u1, w1⟩, ⟨u2, w2⟩, ⟨u3, w3⟩, ⟨u4, w4⟩, w5⟩ := isC_kl hc'
  have p1 : zCp 21 (c + 1) (c' + 1) (nI 0) (nI 0) (nI 4) := zCp_of x1 u1 (by omega) (by omega)
  have p2 : zCp 21 (c + 2) (c' + 2) (nI 0) (nI 0) (nI 4) := zCp_of x2 u2 (by omega) (by omega)
  have p3 : zCp 21 (c + 3) (c' + 3) (nI 0) (nI 0) (nI 8) := zCp_of x3 u3 (by omega) (by omega)
  have p4 : zCp 21 (c + 4) (c' + 4) (nI 0) (nI 0) (nI 8) := zCp_of x4 u4 (by omega) (by omega)
  obtain ⟨⟨k1, k2, k3, k4, k5, k6⟩, k7, k8, k9⟩ := hR
  obtain ⟨a1, s1, s2, s3⟩ := m_copyRows (sc := sc) (d := d) (f := f) (a := zcA (zcA (zcA (zcA a (c + 1) (c' + 1) (nI 0) (nI 0) (nI 4)) (c + 2) (c' + 2) (nI 0) (nI 0) (nI 4)) (c + 3) (c' + 3) (nI 0) (nI 0) (nI 8)) (c + 4) (c' + 4) (nI 0) (nI 0) (nI 8)) (j := j) (r := c + 5) (r' := c' + 5) (n := σ 4) (isC_R hc) (isC_R hc') (by omega) (by omega) (by omega) k5
  have g0 : ∀ i, zuF f (c' + 5) 3 (nI (σ 4)) c i = f c i := fun i => by rw [zuF_nk (by omega)]
  refine ⟨zuF (zuF (zuF (zuF (zuF (zuF f (c' + 5) 3 (nI (σ 4))) c' 5 (f c 5)) c' 6 (nI (σ 0))) c' 7 (nI (σ 1))) c' 8 (nI (σ 3))) c' 9 (nI (σ 2)), a1, ?_, ?_, fun k q1 q2 => ?_, fun k hk => ?_⟩
  · rw [en1]
    simp only [q1_0, q1_1, q1_4, q1_5, q1_6, q1_9, q1_10, q1_11, q1_14, q1_15, q1_18, q1_19, q1_20, q1_23, q1_24, q1_25, q1_28, q1_29, q1_32, q1_33, q1_34, q1_37, q1_38, q1_40, q1_43, q1_44, q1_47, q1_48, q1_49, q1_52, q1_53, q1_55, q1_58, q1_59, q1_62, q1_63, q1_66, q1_69, q1_70, q1_71, q1_74, q1_77, q1_78, q1_79, q1_82, q1_85, q1_86, q1_87, q1_90, q1_93, q1_94, q1_95, q1_98, q1_101, q1_102, q1_103, q1_106, q1_109, hc, hc', isC_R hc, isC_R hc', p1, p2, p3, p4, s1, zuF_nk hne, g0, k1, k7, k8, k9, zCall_some, Option.toList, List.cons_append, List.nil_append, zb_0, zb_1, zem, z01, z11, nI_add, ↓reduceIte, not_true_eq_false, not_false_eq_true, n0T, n1F, n11T, true_or, or_true, false_or]
  · refine ⟨⟨?_, fun g hg => ?_, fun r hr => ?_, fun g hg => ?_, ?_, fun k hk => ?_⟩, ?_, ?_, ?_⟩
    · rw [zuF_ni (by omega), zuF_ni (by omega), zuF_ni (by omega), zuF_eq]
    · rw [zuF_ni (by omega), zuF_ni (by omega), zuF_ni (by omega), zuF_ni (by omega), zuF_eq]; exact k2 g hg
    · rw [s3 (c' + 1) (by omega), s3 (c' + 2) (by omega), zcA_nk (by omega), zcA_nk (by omega), zcA_nk (by omega), zcA_in hr (by omega), zcA_nk (by omega), zcA_nk (by omega), zcA_in hr (by omega), zcA_nk (by omega)]
      exact k3 r hr
    · rw [s3 (c' + 3) (by omega), s3 (c' + 4) (by omega), zcA_nk (by omega), zcA_in (show g < 8 by omega) (by omega), zcA_nk (by omega), zcA_nk (by omega), zcA_in (show g < 8 by omega) (by omega), zcA_nk (by omega), zcA_nk (by omega), zcA_nk (by omega)]
      exact k4 g hg
    · rw [zuF_nk (by omega), zuF_nk (by omega), zuF_nk (by omega), zuF_nk (by omega), zuF_nk (by omega), zuF_eq]
    · obtain ⟨z1, z2, z3⟩ := s2 k hk
      show a1 (c' + 5 + 1) (nI k) = _ ∧ a1 (c' + 5 + 2) (nI k) = _ ∧ a1 (c' + 5 + 3) (nI k) = _
      rw [z1, z2, z3, zcA_nk (by omega), zcA_nk (by omega), zcA_nk (by omega), zcA_nk (by omega), zcA_nk (by omega), zcA_nk (by omega), zcA_nk (by omega), zcA_nk (by omega), zcA_nk (by omega), zcA_nk (by omega), zcA_nk (by omega), zcA_nk (by omega)]
      exact k6 k hk
    · rw [zuF_ni (by omega), zuF_ni (by omega), zuF_eq]
    · rw [zuF_ni (by omega), zuF_eq]
    · rw [zuF_eq]
  · rw [zuF_nk q1, zuF_nk q1, zuF_nk q1, zuF_nk q1, zuF_nk q1, zuF_nk q2]
  · rw [s3 k (by omega), zcA_nk (by omega), zcA_nk (by omega), zcA_nk (by omega), zcA_nk (by omega)]
theorem RW.copy {r r' cnt p q : Nat} {σ : Nat → Nat} {f f' : zF} {a a' : zA} (h : RW r cnt p q σ f a) (hf : f' r' 3 = nI (σ cnt)) (ha : ∀ k, k < σ cnt → a' (r' + 1) (nI k) = a (r + 1) (nI k) ∧ a' (r' + 2) (nI k) = a (r + 2) (nI k) ∧ a' (r' + 3) (nI k) = a (r + 3) (nI k)) : RW r' cnt p q σ f' a' := by
  refine ⟨hf, fun k hk => ?_⟩
  obtain ⟨z1, z2, z3⟩ := ha k hk
  rw [z1, z2]
  exact h.2 k hk
theorem RW.fr {r cnt p q : Nat} {σ : Nat → Nat} {f f' : zF} {a a' : zA} (h : RW r cnt p q σ f a) (hf : f' r = f r) (h1 : a' (r + 1) = a (r + 1)) (h2 : a' (r + 2) = a (r + 2)) : RW r cnt p q σ f' a' := h.of rfl (fun _ _ => ⟨rfl, rfl⟩) hf h1 h2
theorem CR.fr {c : Nat} {σ : Nat → Nat} {f f' : zF} {a a' : zA} (h : CR c σ f a) (hf : ∀ k, (k = c ∨ k = c + 5) → f' k = f k) (ha : ∀ k, (c < k ∧ k ≤ c + 8) → a' k = a k) : CR c σ f' a' := by
  unfold CR CR0 at h ⊢
  rw [hf c (by omega), hf (c + 5) (by omega), ha (c + 1) (by omega), ha (c + 2) (by omega), ha (c + 3) (by omega), ha (c + 4) (by omega), ha (c + 6) (by omega), ha (c + 7) (by omega), ha (c + 8) (by omega)]
  exact h
theorem isW_far {w w' : Nat} (hw : isW w) (hw' : isW w') (h : w ≠ w') : w + 22 ≤ w' ∨ w' + 22 ≤ w := by
  rcases hw with rfl | rfl <;> rcases hw' with rfl | rfl <;> omega
theorem isW_C {w : Nat} (hw : isW w) : isC (w + 1) ∧ isR (w + 10) ∧ isR (w + 14) ∧ isR (w + 18) ∧ zLn (w + 10 + 1) = 5 ∧ zLn (w + 14 + 1) = 8 ∧ zLn (w + 18 + 1) = 8 := by
  rcases hw with rfl | rfl <;> exact ⟨by simp [isC], by simp [isR], by simp [isR], by simp [isR], rfl, rfl, rfl⟩
theorem m_copyWorld {sc : Int32 × (Int32 → Int32)} {f : zF} {a : zA} {j : zJ} {d w w' : Nat} {σ : Nat → Nat} (hw : isW w) (hw' : isW w') (hne : w ≠ w') (hV : VS σ) (hW : WR w σ f a) :
    ∃ (f' : zF) (a' : zA), cf sc (d + 4) 52 [.ref w', .ref w] f a j = some (none, f', a', j) ∧ WR w' σ f' a' ∧ (∀ k, (k ≤ w' ∨ w' + 21 < k) → f' k = f k) ∧ ∀ k, (k ≤ w' ∨ w' + 21 < k) → a' k = a k := by
  have hfar := isW_far hw hw' hne
  obtain ⟨c1, c2, c3, c4, l2, l3, l4⟩ := isW_C hw
  obtain ⟨d1, d2, d3, d4, m2, m3, m4⟩ := isW_C hw'
  have v5 := hV.2.2.1.1
  have v6 := hV.2.2.2.1.1
  have v7 := hV.2.2.2.2.1
  have hC : CR (w + 1) σ f a := ⟨hW.1, hW.2.1⟩
  obtain ⟨f1, a1, s1, s2, s3, s4⟩ := m_copyCanal (sc := sc) (d := d) (j := j) c1 d1 (by omega) hV.1.1.1 hV.2.1.1 hC
  have r1 := hW.2.2.1.fr (f' := f1) (a' := a1) (s3 _ (by omega) (by omega)) (s4 _ (by omega)) (s4 _ (by omega))
  obtain ⟨a2, t1, t2, t3⟩ := m_copyRows (sc := sc) (d := d + 1) (f := f1) (a := a1) (j := j) c2 d2 (by omega) (by omega) (by omega) r1.1
  have r2 := (hW.2.2.2.1.fr (f' := f1) (a' := a1) (s3 _ (by omega) (by omega)) (s4 _ (by omega)) (s4 _ (by omega))).fr (f' := zuF f1 (w' + 10) 3 (nI (σ 5))) (a' := a2) (zuF_nk (by omega)) (t3 _ (by omega)) (t3 _ (by omega))
  obtain ⟨a3, u1, u2, u3⟩ := m_copyRows (sc := sc) (d := d + 1) (f := zuF f1 (w' + 10) 3 (nI (σ 5))) (a := a2) (j := j) c3 d3 (by omega) (by omega) (by omega) r2.1
  have r3 := ((hW.2.2.2.2.fr (f' := f1) (a' := a1) (s3 _ (by omega) (by omega)) (s4 _ (by omega)) (s4 _ (by omega))).fr (f' := zuF f1 (w' + 10) 3 (nI (σ 5))) (a' := a2) (zuF_nk (by omega)) (t3 _ (by omega)) (t3 _ (by omega))).fr (f' := zuF (zuF f1 (w' + 10) 3 (nI (σ 5))) (w' + 14) 3 (nI (σ 6))) (a' := a3) (zuF_nk (by omega)) (u3 _ (by omega)) (u3 _ (by omega))
  obtain ⟨a4, y1, y2, y3⟩ := m_copyRows (sc := sc) (d := d + 1) (f := zuF (zuF f1 (w' + 10) 3 (nI (σ 5))) (w' + 14) 3 (nI (σ 6))) (a := a3) (j := j) c4 d4 (by omega) (by omega) (by omega) r3.1
  have hK : CR (w' + 1) σ (zuF (zuF (zuF f1 (w' + 10) 3 (nI (σ 5))) (w' + 14) 3 (nI (σ 6))) (w' + 18) 3 (nI (σ 7))) a4 := s2.fr (fun k hk => by rw [zuF_nk (by omega), zuF_nk (by omega), zuF_nk (by omega)]) (fun k hk => by rw [y3 k (by omega), u3 k (by omega), t3 k (by omega)])
  refine ⟨zuF (zuF (zuF f1 (w' + 10) 3 (nI (σ 5))) (w' + 14) 3 (nI (σ 6))) (w' + 18) 3 (nI (σ 7)), a4, ?_, ⟨hK.1, hK.2, ?_, ?_, ?_⟩, fun k hk => ?_, fun k hk => ?_⟩
  · rw [en52]
    simp only [q52_0, q52_1, q52_4, q52_5, q52_8, q52_11, q52_12, q52_15, q52_16, q52_19, q52_22, q52_23, q52_26, q52_27, q52_30, q52_33, q52_34, q52_37, q52_38, q52_41, q52_44, hw, hw', c1, d1, c2, d2, c3, d3, c4, d4, s1, t1, u1, y1, zCall_some, Option.toList, List.cons_append, List.nil_append, zb_0, zb_1, zem, z01, z11, nI_add, ↓reduceIte, not_true_eq_false, not_false_eq_true, n0T, n1F, n11T, true_or, or_true, false_or]
  · exact ((r1.copy (r' := w' + 10) zuF_eq t2).fr (f' := zuF (zuF f1 (w' + 10) 3 (nI (σ 5))) (w' + 14) 3 (nI (σ 6))) (a' := a3) (zuF_nk (by omega)) (u3 _ (by omega)) (u3 _ (by omega))).fr (zuF_nk (by omega)) (y3 _ (by omega)) (y3 _ (by omega))
  · exact (r2.copy (r' := w' + 14) zuF_eq u2).fr (zuF_nk (by omega)) (y3 _ (by omega)) (y3 _ (by omega))
  · exact r3.copy (r' := w' + 18) zuF_eq y2
  · rw [zuF_nk (by omega), zuF_nk (by omega), zuF_nk (by omega), s3 k (by omega) (by omega)]
  · rw [y3 k (by omega), u3 k (by omega), t3 k (by omega), s4 k (by omega)]
theorem WR.gen {w : Nat} {σ : Nat → Nat} {f f' : zF} {a a' : zA} (h : WR w σ f a) (hw : isW w) (hf : ∀ k, (w < k ∧ k ≤ w + 21) → f' k = f k) (ha : ∀ k, (w < k ∧ k ≤ w + 21) → a' k = a k) : WR w σ f' a' := by
  have hC : CR (w + 1) σ f' a' := CR.fr ⟨h.1, h.2.1⟩ (fun k hk => hf k (by omega)) (fun k hk => ha k (by omega))
  exact ⟨hC.1, hC.2, h.2.2.1.fr (hf _ (by omega)) (ha _ (by omega)) (ha _ (by omega)), h.2.2.2.1.fr (hf _ (by omega)) (ha _ (by omega)) (ha _ (by omega)), h.2.2.2.2.fr (hf _ (by omega)) (ha _ (by omega)) (ha _ (by omega))⟩
theorem x_image {sc : Int32 × (Int32 → Int32)} {f : zF} {a : zA} {j : zJ} {d : Nat} {σ : Nat → Nat} (hW : WR 1 σ f a) (hV : VS σ) : ∃ (f' : zF) (a' : zA), cf sc (d + 5) 86 [.ref 0] f a j = some (some (.int (nI (σ 0))), f', a', j) ∧ WR 1 σ f' a' ∧ WR 23 σ f' a' ∧ f' 0 2 = nI 1 ∧ (∀ k, k ≠ 0 → (k ≤ 23 ∨ 44 < k) → f' k = f k) ∧ (∀ i, i ≠ 2 → f' 0 i = f 0 i) ∧ ∀ k, (k ≤ 23 ∨ 44 < k) → a' k = a k := by
  obtain ⟨f1, a1, h1, h2, h3, h4⟩ := m_copyWorld (sc := sc) (d := d) (j := j) isW_1 isW_23 (by omega) hV hW
  have hW1 : WR 1 σ (zuF f1 0 2 (nI 1)) a1 := hW.gen isW_1 (fun k hk => by rw [zuF_nk (by omega), h3 k (by omega)]) (fun k hk => h4 k (by omega))
  refine ⟨zuF f1 0 2 (nI 1), a1, ?_, hW1, ?_, zuF_eq, fun k q1 q2 => ?_, fun i hi => ?_, fun k hk => h4 k (by omega)⟩
  · rw [en86]
    have e6 : f1 2 6 = nI (σ 0) := by rw [h3 2 (by omega)]; exact hW.1.1
    simp only [q86_0, q86_1, q86_4, q86_5, q86_8, q86_11, q86_12, q86_13, q86_16, q86_17, q86_20, q86_23, q86_26, isW_1, isW_23, isC_2, Nat.reduceAdd, h1, zuF_nk (show 2 ≠ 0 by omega), e6, zCall_some, Option.toList, List.cons_append, List.nil_append, zb_0, zb_1, zem, z01, z11, nI_add, ↓reduceIte, not_true_eq_false, not_false_eq_true, n0T, n1F, n11T, true_or, or_true, false_or]
  · exact h2.gen isW_23 (fun k hk => zuF_nk (by omega)) (fun _ _ => rfl)
  · rw [zuF_nk q1, h3 k (by omega)]
  · rw [zuF_ni hi, h3 0 (by omega)]
def udS (kb : Bool) (σ τ : Nat → Nat) : Int32 × (Nat → Nat) := if kb = true then (nI (τ 0), τ) else (-3, σ)
theorem x_undo {sc : Int32 × (Int32 → Int32)} {f : zF} {a : zA} {j : zJ} {d : Nat} {kb : Bool} {σ τ : Nat → Nat} (hW : WR 1 σ f a) (hV : VS σ) (hk : f 0 2 = nI (if kb = true then 1 else 0)) (hK : kb = true → WR 23 τ f a ∧ VS τ) : ∃ (f' : zF) (a' : zA), cf sc (d + 5) 87 [.ref 0] f a j = some (some (.int (udS kb σ τ).1), f', a', j) ∧ WR 1 (udS kb σ τ).2 f' a' ∧ VS (udS kb σ τ).2 ∧ FrW f f' a a' := by
  rw [en87]
  unfold udS
  by_cases hb : kb = true
  · rw [if_pos hb]
    rw [if_pos hb] at hk
    obtain ⟨hK1, hK2⟩ := hK hb
    obtain ⟨f1, a1, h1, h2, h3, h4⟩ := m_copyWorld (sc := sc) (d := d) (j := j) isW_23 isW_1 (by omega) hK2 hK1
    refine ⟨f1, a1, ?_, h2, hK2, ⟨fun k hk => h3 k (by omega), fun k hk => h4 k (by omega)⟩⟩
    have e6 : f1 2 6 = nI (τ 0) := h2.1.1
    simp only [q87_0, q87_1, q87_4, q87_7, q87_9, q87_10, q87_11, q87_14, q87_15, q87_18, q87_21, q87_22, q87_25, q87_28, q87_31, isW_1, isW_23, isC_2, Nat.reduceAdd, hk, h1, e6, zCall_some, Option.toList, List.cons_append, List.nil_append, zb_0, zb_1, zem, z01, z11, nI_add, ↓reduceIte, not_true_eq_false, not_false_eq_true, n0T, n1F, n11T, true_or, or_true, false_or]
  · rw [if_neg hb]
    rw [if_neg hb] at hk
    refine ⟨f, a, ?_, hW, hV, FrW.rf⟩
    simp only [q87_0, q87_1, q87_4, q87_7, q87_9, q87_10, q87_11, q87_14, q87_15, q87_18, q87_21, q87_22, q87_25, q87_28, q87_31, hk, zCall_some, Option.toList, List.cons_append, List.nil_append, zb_0, zb_1, zem, z01, z11, nI_add, ↓reduceIte, not_true_eq_false, not_false_eq_true, n0T, n1F, n11T, true_or, or_true, false_or]
