/-! ===== what the constructors leave: the first state ===== -/
def kFin : List kC := match kEnd with
  | some (_, _, _, X, _, _) => X
  | none => []
theorem kEnd_map : kEnd.map (fun S => (S.1, S.2.1, S.2.2.1, S.2.2.2.2.1, S.2.2.2.2.2)) = some (16, [.ref 999, .ref 0, .ref 85, .null], [], 107, 2163) := by decide +kernel
theorem kEnd_eq : kEnd = some (16, [.ref 999, .ref 0, .ref 85, .null], [], kFin, 107, 2163) := by
  have h := kEnd_map
  unfold kFin
  cases q : kEnd with
  | none => rw [q] at h; cases h
  | some S =>
    obtain ⟨s1, s2, s3, s4, s5, s6⟩ := S
    rw [q] at h
    simp only [Option.map_some, Option.some.injEq, Prod.mk.injEq] at h
    obtain ⟨rfl, rfl, rfl, rfl, rfl⟩ := h
    rfl
def f0 : zF := fun k i => match kFin[k]? with
  | some (.inl (_, fs)) => match fs[i]? with
    | some (.int v) => v
    | _ => 0
  | _ => 0
def a0 : zA := fun k i => match kFin[k]? with
  | some (.inr (.inl (_, _, g))) => g i.toNatClampNeg
  | _ => 0
theorem a0_eq {k kd n : Nat} {g : Nat → Int32} {i : Int32} (h : kFin[k]? = some (.inr (.inl (kd, n, g)))) : a0 k i = g i.toNatClampNeg := by
  unfold a0
  simp only [h]
def j0 : zJ := fun _ _ => 0
def kMt (k : Nat) : kC → Bool
  | .inl (ci, fs) => decide (ci = zKd k) && (decide (ci < 8) && decide (fs = (List.range (zC ci).2.2).map (fun i => if zIsR ci i = true then .ref (zRf k i) else .int (f0 k i))))
  | .inr (.inl (kd, n, _)) => decide (kd = zKd k) && (decide (kd = 20 ∨ kd = 21) && (decide (n = zLn k) && decide (n ≤ 1000)))
  | .inr (.inr (.inl n)) => decide (zKd k = 22) && decide (n = zLn k)
  | .inr (.inr (.inr (kd, n, g))) => decide (kd = zKd k) && (decide (kd = 23 ∨ kd = 24) && (decide (n = zLn k) && (List.range n).all (fun i => decide (g i = some (zRf k i)))))
def kMtA : Bool := decide (kFin.length = zNC) && (List.range zNC).all (fun k => match kFin[k]? with | some x => kMt k x | none => false)
theorem kMt_ok : kMtA = true := by decide +kernel
theorem kMt_at {k : Nat} (hk : k < zNC) : ∃ x, kFin[k]? = some x ∧ kMt k x = true := by
  have h := kMt_ok
  unfold kMtA at h
  rw [Bool.and_eq_true] at h
  have h1 := List.all_eq_true.mp h.2 k (List.mem_range.mpr hk)
  cases q : kFin[k]? with
  | none => rw [q] at h1; cases h1
  | some x => rw [q] at h1; exact ⟨x, rfl, h1⟩
theorem kInit_P {b bs : Nat} {D : va_G} {cs : Nat → ClassId} {H : Heap} (h : kP b bs D cs kFin H) : va_P D zvCl (zW b cs f0 a0 j0) H := by
  intro k q hq
  obtain ⟨hk, rfl⟩ := zW_some hq
  obtain ⟨x, h1, h2⟩ := kMt_at hk
  have h3 := h.2 k x h1
  match x, h1, h2, h3 with
  | .inl (ci, fs), h1, h2, h3 =>
    simp only [kMt, Bool.and_eq_true, decide_eq_true_eq] at h2
    obtain ⟨e1, e2, e3⟩ := h2
    rw [zCell_obj e1.symm (by omega)]
    have e4 : fs.map (zV b bs) = zFs b f0 k := by
      rw [e3]
      unfold zFs
      rw [← e1, List.map_map]
      apply List.map_congr_left
      intro i hi
      have hi := List.mem_range.mp hi
      show zV b bs (if zIsR ci i = true then .ref (zRf k i) else .int (f0 k i)) = _
      by_cases hr : zIsR ci i = true
      · rw [if_pos hr, if_pos hr]
        exact zV_lt (zRf_lt hk e1.symm hr hi)
      · rw [if_neg hr, if_neg hr]
        rfl
    rw [← e4]
    exact h3
  | .inr (.inl (kd, n, g)), h1, h2, h3 =>
    simp only [kMt, Bool.and_eq_true, decide_eq_true_eq] at h2
    obtain ⟨e1, e2, e3, e4⟩ := h2
    rw [zCell_i e1.symm e2]
    have h4 : H[b + k]? = some (vp_cell (cs kd) (n, .inl g)) := h3
    show H[b + k]? = some (vp_cell (cs kd) (zLn k, .inl (fun i => a0 k (nI i))))
    rw [h4, ← e3]
    exact congrArg some (zcell_i (fun q hq => by rw [a0_eq h1, nI_clamp (by omega)]))
  | .inr (.inr (.inl n)), h1, h2, h3 =>
    simp only [kMt, Bool.and_eq_true, decide_eq_true_eq] at h2
    obtain ⟨e1, e2⟩ := h2
    rw [zCell_l e1, ← e2]
    exact h3
  | .inr (.inr (.inr (kd, n, g))), h1, h2, h3 =>
    simp only [kMt, Bool.and_eq_true, decide_eq_true_eq] at h2
    obtain ⟨e1, e2, e3, e4⟩ := h2
    rw [zCell_q e1.symm e2]
    have h4 : H[b + k]? = some (vp_cell (cs kd) (n, .inr (.inr (.inr (.inr (fun i => (g i).map (fun k => b + k))))))) := h3
    show H[b + k]? = some (vp_cell (cs kd) (zLn k, .inr (.inr (.inr (.inr (fun i => some (b + zRf k i)))))))
    rw [h4, ← e3, vp_cell_q, vp_cell_q]
    unfold arrV
    have e5 : (fun j : Fin n => va_rf ((g j.val).map (fun k => b + k))) = fun j : Fin n => va_rf (some (b + zRf k j.val)) := funext fun j => by
      have h5 := List.all_eq_true.mp e4 j.val (List.mem_range.mpr j.isLt)
      rw [decide_eq_true_eq] at h5
      rw [h5]
      rfl
    rw [e5]
def σ0 : Nat → Nat := fun i => if i = 1 then 24 else if 8 ≤ i ∧ i < 12 then 1 else if 12 ≤ i ∧ i < 16 then 5 else 0
def T0 : TS := fun _ => (-1, 0, fun _ => 0)
theorem k_c1 : (f0 2 6 = nI 0 ∧ f0 7 3 = nI 0 ∧ f0 2 7 = nI 24 ∧ f0 2 8 = nI 0 ∧ f0 2 9 = nI 0) ∧ (f0 11 3 = nI 0 ∧ f0 15 3 = nI 0 ∧ f0 19 3 = nI 0) ∧ f0 0 2 = nI 0 ∧ f0 65 1 = nI 0 ∧ f0 85 4 = nI 0 ∧ f0 85 18 = nI 0 := by decide +kernel
theorem k_c2 : ∀ r, r < 4 → a0 3 (nI r) = nI (σ0 (8 + r)) ∧ a0 4 (nI r) = nI (σ0 (12 + r)) := by decide +kernel
theorem k_c3 : ∀ t, t < 6 → f0 (73 + 2 * t) 1 = -1 ∧ f0 (73 + 2 * t) 2 = nI 0 := by decide +kernel
theorem k_c4 : ∀ i, i < 140 → a0 86 (nI i) = nI (σ0 i) := by decide +kernel
theorem k_c5 : ∀ t, t < 6 → a0 104 (nI t) = -1 ∧ a0 105 (nI t) = nI 0 := by decide +kernel
theorem σ0_VS : VS σ0 := by
  have e0 : σ0 0 = 0 := rfl
  have e1 : σ0 1 = 24 := rfl
  have e4 : σ0 4 = 0 := rfl
  have e5 : σ0 5 = 0 := rfl
  have e6 : σ0 6 = 0 := rfl
  have e7 : σ0 7 = 0 := rfl
  refine ⟨⟨⟨by omega, by omega, fun g hg => by omega, fun r hr => ?_⟩, by omega, by omega, by decide, by decide⟩, ⟨by omega, fun k hk => by omega⟩, ⟨by omega, fun k hk => by omega⟩, ⟨by omega, fun k hk => by omega⟩, ⟨by omega, fun k hk => by omega⟩⟩
  exact (by decide : ∀ r, r < 4 → σ0 (8 + r) ≤ 9 ∧ σ0 (12 + r) ≤ 25) r hr
theorem Iv0 : Iv f0 a0 j0 := by
  obtain ⟨⟨c1, c2, c3, c4, c5⟩, ⟨c6, c7, c8⟩, c9, c10, c11, c12⟩ := k_c1
  have e0 : σ0 0 = 0 := rfl
  have e4 : σ0 4 = 0 := rfl
  have e5 : σ0 5 = 0 := rfl
  have e6 : σ0 6 = 0 := rfl
  have e7 : σ0 7 = 0 := rfl
  refine ⟨σ0, σ0, false, fun _ => 0, 0, T0, ⟨⟨⟨⟨c1, fun g hg => by omega, k_c2, fun g hg => by omega, c2, fun k hk => by omega⟩, ⟨c3, c4, c5⟩, ⟨c6, fun k hk => by omega⟩, ⟨c7, fun k hk => by omega⟩, c8, fun k hk => by omega⟩, σ0_VS⟩, ⟨c9, fun h => (by cases h)⟩, ⟨⟨c10, fun i hi => by omega⟩, by omega, fun i hi => by omega⟩, fun t ht => ⟨(k_c3 t ht).1, (k_c3 t ht).2, fun i hi => absurd hi (Nat.not_lt_zero i)⟩, fun t ht => Or.inl ⟨rfl, rfl⟩⟩, k_c4, ⟨c11, fun h => (by cases h)⟩, ⟨c12, fun i hi => by omega⟩, fun t ht => ⟨(k_c5 t ht).1, (k_c5 t ht).2, fun i hi => absurd hi (Nat.not_lt_zero i)⟩⟩
