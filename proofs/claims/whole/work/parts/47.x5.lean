/-! ===== the class: field .. pass, trades, seen, the plan, the book ===== -/
def Fr2 (f f' : zF) (a a' : zA) : Prop := (∀ k, (k < 2 ∨ 22 < k) → f' k = f k) ∧ ∀ k, (k < 2 ∨ 22 < k) → a' k = a k
theorem Fr2.rf {f : zF} {a : zA} : Fr2 f f a a := ⟨fun _ _ => rfl, fun _ _ => rfl⟩
theorem FrC.f2 {f f' : zF} {a a' : zA} (h : FrC 2 f f' a a') : Fr2 f f' a a' := ⟨fun k hk => h.1 k (by omega) (by omega), fun k hk => h.2 k (by omega)⟩
theorem VS.vc {σ : Nat → Nat} (h : VS σ) : VC σ := h.1
theorem WR.cr {σ : Nat → Nat} {f : zF} {a : zA} (h : WR 1 σ f a) : CR 2 σ f a := ⟨h.1, h.2.1⟩
theorem RW.of {r cnt p q : Nat} {σ τ : Nat → Nat} {f f' : zF} {a a' : zA} (h : RW r cnt p q σ f a) (e0 : τ cnt = σ cnt) (e : ∀ k, k < σ cnt → τ (p + k) = σ (p + k) ∧ τ (q + k) = σ (q + k)) (hf : f' r = f r) (h1 : a' (r + 1) = a (r + 1)) (h2 : a' (r + 2) = a (r + 2)) : RW r cnt p q τ f' a' := by
  obtain ⟨k1, k2⟩ := h
  unfold RW
  rw [e0, hf, h1, h2]
  refine ⟨k1, fun k hk => ?_⟩
  rw [(e k hk).1, (e k hk).2]
  exact k2 k hk
theorem PlOK.le {n m w x : Nat} (h : PlOK n w x) (hm : n ≤ m) : PlOK m w x := by
  obtain ⟨h1, h2, h3⟩ := h
  exact ⟨h1, fun q => by have := h2 q; omega, h3⟩
theorem Did.wr {σ τ : Nat → Nat} {f f' : zF} {a a' : zA} (hW : WR 1 σ f a) (hV : VS σ) (h : Did 2 σ τ f f' a a') : WR 1 τ f' a' ∧ VS τ ∧ Fr2 f f' a a' := by
  obtain ⟨hC, hVC, hF, hK⟩ := h
  obtain ⟨v1, v2, ⟨v3, v4⟩, ⟨v5, v6⟩, ⟨v7, v8⟩⟩ := hV
  rcases hK with rfl | ⟨t4, t0, tI⟩
  · exact ⟨⟨hC.1, hC.2, hW.2.2.1.of rfl (fun _ _ => ⟨rfl, rfl⟩) (hF.1 _ (by omega) (by omega)) (hF.2 _ (by omega)) (hF.2 _ (by omega)), hW.2.2.2.1.of rfl (fun _ _ => ⟨rfl, rfl⟩) (hF.1 _ (by omega) (by omega)) (hF.2 _ (by omega)) (hF.2 _ (by omega)), hW.2.2.2.2.of rfl (fun _ _ => ⟨rfl, rfl⟩) (hF.1 _ (by omega) (by omega)) (hF.2 _ (by omega)) (hF.2 _ (by omega))⟩, ⟨v1, v2, ⟨v3, v4⟩, ⟨v5, v6⟩, ⟨v7, v8⟩⟩, hF.f2⟩
  · have e5 := tI 5 (by omega)
    have e6 := tI 6 (by omega)
    have e7 := tI 7 (by omega)
    refine ⟨⟨hC.1, hC.2, hW.2.2.1.of e5 (fun k _ => ⟨tI _ (by omega), tI _ (by omega)⟩) (hF.1 _ (by omega) (by omega)) (hF.2 _ (by omega)) (hF.2 _ (by omega)), hW.2.2.2.1.of e6 (fun k _ => ⟨tI _ (by omega), tI _ (by omega)⟩) (hF.1 _ (by omega) (by omega)) (hF.2 _ (by omega)) (hF.2 _ (by omega)), hW.2.2.2.2.of e7 (fun k _ => ⟨tI _ (by omega), tI _ (by omega)⟩) (hF.1 _ (by omega) (by omega)) (hF.2 _ (by omega)) (hF.2 _ (by omega))⟩, ⟨hVC, ⟨by omega, fun k hk => by omega⟩, ⟨by omega, fun k hk => ?_⟩, ⟨by omega, fun k hk => ?_⟩, ⟨by omega, fun k hk => ?_⟩⟩, hF.f2⟩
    · have := v4 k (by omega)
      rw [tI (76 + k) (by omega), tI (81 + k) (by omega)]
      omega
    · have := v6 k (by omega)
      rw [tI (86 + k) (by omega), tI (94 + k) (by omega)]
      exact this.le t0
    · have := v8 k (by omega)
      rw [tI (102 + k) (by omega), tI (110 + k) (by omega)]
      omega
theorem x_field {sc : Int32 × (Int32 → Int32)} {f : zF} {a : zA} {j : zJ} {d : Nat} {σ : Nat → Nat} {x y : Int32} (hW : WR 1 σ f a) (hV : VS σ) : ∃ (f' : zF) (a' : zA), cf sc (d + 3) 53 [.ref 0, .int x, .int y] f a j = some (some (.int (cfS σ x y).1), f', a', j) ∧ WR 1 (cfS σ x y).2 f' a' ∧ VS (cfS σ x y).2 ∧ Fr2 f f' a a' := by
  obtain ⟨f1, a1, h1, h2⟩ := m_comeField (sc := sc) (d := d) (j := j) (x := x) (y := y) isC_2 hV.vc hW.cr
  refine ⟨f1, a1, ?_, h2.wr hW hV⟩
  rw [en53]
  simp only [q53_0, q53_1, q53_4, q53_7, q53_8, q53_9, q53_12, isW_1, isC_2, Nat.reduceAdd, h1, zCall_some, Option.toList, List.cons_append, List.nil_append, zb_0, zb_1, zem, z01, z11, nI_add, ↓reduceIte, not_true_eq_false, not_false_eq_true, n0T, n1F, n11T, true_or, or_true, false_or]
theorem x_renew {sc : Int32 × (Int32 → Int32)} {f : zF} {a : zA} {j : zJ} {d : Nat} {σ : Nat → Nat} {v x y : Int32} (hW : WR 1 σ f a) (hV : VS σ) : ∃ (f' : zF) (a' : zA), cf sc (d + 4) 54 [.ref 0, .int v, .int x, .int y] f a j = some (some (.int (rfS σ v x y).1), f', a', j) ∧ WR 1 (rfS σ v x y).2 f' a' ∧ VS (rfS σ v x y).2 ∧ Fr2 f f' a a' := by
  obtain ⟨f1, a1, h1, h2⟩ := m_renewField (sc := sc) (d := d) (j := j) (v := v) (what := x) (x := y) isC_2 hV.vc hW.cr
  refine ⟨f1, a1, ?_, h2.wr hW hV⟩
  rw [en54]
  simp only [q54_0, q54_1, q54_4, q54_7, q54_8, q54_9, q54_10, q54_13, isW_1, isC_2, Nat.reduceAdd, h1, zCall_some, Option.toList, List.cons_append, List.nil_append, zb_0, zb_1, zem, z01, z11, nI_add, ↓reduceIte, not_true_eq_false, not_false_eq_true, n0T, n1F, n11T, true_or, or_true, false_or]
theorem x_absent {sc : Int32 × (Int32 → Int32)} {f : zF} {a : zA} {j : zJ} {d : Nat} {σ : Nat → Nat} {v b : Int32} (hW : WR 1 σ f a) (hV : VS σ) : ∃ (f' : zF) (a' : zA), cf sc (d + 4) 55 [.ref 0, .int v, .int b] f a j = some (some (.int (awS σ v b).1), f', a', j) ∧ WR 1 (awS σ v b).2 f' a' ∧ VS (awS σ v b).2 ∧ Fr2 f f' a a' := by
  obtain ⟨f1, h1, h2⟩ := m_setAway (sc := sc) (d := d) (j := j) (v := v) (b := b) isC_2 hV.vc hW.cr
  refine ⟨f1, a, ?_, h2.wr hW hV⟩
  rw [en55]
  simp only [q55_0, q55_1, q55_4, q55_7, q55_8, q55_9, q55_12, isW_1, isC_2, Nat.reduceAdd, h1, zCall_some, Option.toList, List.cons_append, List.nil_append, zb_0, zb_1, zem, z01, z11, nI_add, ↓reduceIte, not_true_eq_false, not_false_eq_true, n0T, n1F, n11T, true_or, or_true, false_or]
theorem x_reach {sc : Int32 × (Int32 → Int32)} {f : zF} {a : zA} {j : zJ} {d : Nat} {σ : Nat → Nat} {v x y : Int32} (hW : WR 1 σ f a) (hV : VS σ) : ∃ (f' : zF) (a' : zA), cf sc (d + 4) 56 [.ref 0, .int v, .int x, .int y] f a j = some (some (.int (rrS σ v x y).1), f', a', j) ∧ WR 1 (rrS σ v x y).2 f' a' ∧ VS (rrS σ v x y).2 ∧ Fr2 f f' a a' := by
  obtain ⟨f1, a1, h1, h2⟩ := m_renewReach (sc := sc) (d := d) (j := j) (v := v) (what := x) (x := y) isC_2 hV.vc hW.cr
  refine ⟨f1, a1, ?_, h2.wr hW hV⟩
  rw [en56]
  simp only [q56_0, q56_1, q56_4, q56_7, q56_8, q56_9, q56_10, q56_13, isW_1, isC_2, Nat.reduceAdd, h1, zCall_some, Option.toList, List.cons_append, List.nil_append, zb_0, zb_1, zem, z01, z11, nI_add, ↓reduceIte, not_true_eq_false, not_false_eq_true, n0T, n1F, n11T, true_or, or_true, false_or]
theorem x_hours {sc : Int32 × (Int32 → Int32)} {f : zF} {a : zA} {j : zJ} {d : Nat} {σ : Nat → Nat} {v : Int32} (hW : WR 1 σ f a) (hV : VS σ) : ∃ (f' : zF) (a' : zA), cf sc (d + 3) 58 [.ref 0, .int v] f a j = some (some (.int (hwS σ v).1), f', a', j) ∧ WR 1 (hwS σ v).2 f' a' ∧ VS (hwS σ v).2 ∧ Fr2 f f' a a' := by
  obtain ⟨f1, h1, h2⟩ := m_setHours (sc := sc) (d := d) (j := j) (v := v) isC_2 hV.vc hW.cr
  refine ⟨f1, a, ?_, h2.wr hW hV⟩
  rw [en58]
  simp only [q58_0, q58_1, q58_4, q58_7, q58_8, q58_11, isW_1, isC_2, Nat.reduceAdd, h1, zCall_some, Option.toList, List.cons_append, List.nil_append, zb_0, zb_1, zem, z01, z11, nI_add, ↓reduceIte, not_true_eq_false, not_false_eq_true, n0T, n1F, n11T, true_or, or_true, false_or]
theorem x_rule {sc : Int32 × (Int32 → Int32)} {f : zF} {a : zA} {j : zJ} {d : Nat} {σ : Nat → Nat} {v : Int32} (hW : WR 1 σ f a) (hV : VS σ) : ∃ (f' : zF) (a' : zA), cf sc (d + 3) 59 [.ref 0, .int v] f a j = some (some (.int (ruS σ v).1), f', a', j) ∧ WR 1 (ruS σ v).2 f' a' ∧ VS (ruS σ v).2 ∧ Fr2 f f' a a' := by
  obtain ⟨f1, h1, h2⟩ := m_setRule (sc := sc) (d := d) (j := j) (v := v) isC_2 hV.vc hW.cr
  refine ⟨f1, a, ?_, h2.wr hW hV⟩
  rw [en59]
  simp only [q59_0, q59_1, q59_4, q59_7, q59_8, q59_11, isW_1, isC_2, Nat.reduceAdd, h1, zCall_some, Option.toList, List.cons_append, List.nil_append, zb_0, zb_1, zem, z01, z11, nI_add, ↓reduceIte, not_true_eq_false, not_false_eq_true, n0T, n1F, n11T, true_or, or_true, false_or]
theorem x_pass {sc : Int32 × (Int32 → Int32)} {f : zF} {a : zA} {j : zJ} {d : Nat} {σ : Nat → Nat} {v : Int32} (hW : WR 1 σ f a) (hV : VS σ) : ∃ (f' : zF) (a' : zA), cf sc (d + 3) 60 [.ref 0, .int v] f a j = some (some (.int (psS σ v).1), f', a', j) ∧ WR 1 (psS σ v).2 f' a' ∧ VS (psS σ v).2 ∧ Fr2 f f' a a' := by
  obtain ⟨f1, h1, h2⟩ := m_passWeeks (sc := sc) (d := d) (j := j) (v := v) isC_2 hV.vc hW.cr
  refine ⟨f1, a, ?_, h2.wr hW hV⟩
  rw [en60]
  simp only [q60_0, q60_1, q60_4, q60_7, q60_8, q60_11, isW_1, isC_2, Nat.reduceAdd, h1, zCall_some, Option.toList, List.cons_append, List.nil_append, zb_0, zb_1, zem, z01, z11, nI_add, ↓reduceIte, not_true_eq_false, not_false_eq_true, n0T, n1F, n11T, true_or, or_true, false_or]
