/-! ===== facts on the LINE and the TURNS ===== -/
/-- σ is within its bounds, as far as a WEEK's working out needs it -/
def VR (σ : Nat → Nat) : Prop := σ 0 ≤ 8 ∧ σ 1 ≤ 97 ∧ (∀ g, g < σ 0 → σ (16 + g) < 4 ∧ (1 ≤ σ (24 + g) ∧ σ (24 + g) ≤ 9) ∧ σ (32 + g) ≤ 1) ∧ ∀ r, r < 4 → σ (8 + r) ≤ 9 ∧ σ (12 + r) ≤ 25
def ctI (σ : Nat → Nat) (r : Nat) : Nat → Nat
  | 0 => 0
  | g + 1 => ctI σ r g + (if σ (16 + g) = r then 1 else 0)
def ctS (σ : Nat → Nat) (n : Nat) : Nat → Nat
  | 0 => 0
  | r + 1 => ctS σ n r + ctI σ r n
theorem ctI_s (σ : Nat → Nat) (r g : Nat) : ctI σ r (g + 1) = ctI σ r g + (if σ (16 + g) = r then 1 else 0) := rfl
theorem ctS_s (σ : Nat → Nat) (n r : Nat) : ctS σ n (r + 1) = ctS σ n r + ctI σ r n := rfl
theorem ctS_succ (σ : Nat → Nat) (n : Nat) : ∀ R, ctS σ (n + 1) R = ctS σ n R + (if σ (16 + n) < R then 1 else 0)
  | 0 => by simp [ctS]
  | R + 1 => by
    have ih := ctS_succ σ n R
    rw [ctS_s, ctS_s, ih, ctI_s]
    split <;> split <;> split <;> omega
theorem ctS_le (σ : Nat → Nat) : ∀ n R, ctS σ n R ≤ n
  | 0, R => by
    induction R with
    | zero => simp [ctS]
    | succ R ih => rw [ctS_s, show ctI σ R 0 = 0 from rfl]; omega
  | n + 1, R => by
    have ih := ctS_le σ n R
    rw [ctS_succ]
    split <;> omega
theorem ctS_all (σ : Nat → Nat) (R : Nat) : ∀ n, (∀ g, g < n → σ (16 + g) < R) → ctS σ n R = n
  | 0, _ => by have := ctS_le σ 0 R; omega
  | n + 1, h => by
    rw [ctS_succ, ctS_all σ R n (fun g hg => h g (by omega)), if_pos (h n (by omega))]
theorem ctI_mono (σ : Nat → Nat) (r : Nat) {g g' : Nat} (h : g ≤ g') : ctI σ r g ≤ ctI σ r g' := by
  induction g' with
  | zero => rw [show g = 0 by omega]; exact Nat.le_refl _
  | succ n ih =>
    rcases Nat.lt_or_ge g (n + 1) with q | q
    · have := ih (by omega)
      rw [ctI_s]
      omega
    · rw [show g = n + 1 by omega]; exact Nat.le_refl _
theorem lnI_len (σ : Nat → Nat) (r : Nat) (acc : List Nat) : ∀ g, (lnI σ r g acc).length = acc.length + ctI σ r g
  | 0 => by simp [lnI, ctI]
  | g + 1 => by
    have ih := lnI_len σ r acc g
    unfold lnI ctI
    split
    · rw [List.length_append, ih]; simp; omega
    · rw [ih]; simp
theorem lnO_len (σ : Nat → Nat) : ∀ r, (lnO σ r).length = ctS σ (σ 0) r
  | 0 => by simp [lnO, ctS]
  | r + 1 => by unfold lnO ctS; rw [lnI_len, lnO_len σ r]
/-- when a FIELD is yet to come there is a place for it -/
theorem ln_room {σ : Nat → Nat} {r g : Nat} (hg : g < σ 0) (h : σ (16 + g) = r) : (lnI σ r g (lnO σ r)).length < σ 0 := by
  rw [lnI_len, lnO_len]
  have h1 := ctS_le σ (σ 0) (r + 1)
  have h2 : ctI σ r (g + 1) ≤ ctI σ r (σ 0) := ctI_mono σ r (by omega)
  rw [ctS_s] at h1
  rw [ctI_s, if_pos h] at h2
  omega
theorem lnI_stay {σ : Nat → Nat} {r : Nat} {acc : List Nat} {g : Nat} : ∀ m, (∀ q, g ≤ q → q < g + m → σ (16 + q) ≠ r) → lnI σ r (g + m) acc = lnI σ r g acc
  | 0, _ => rfl
  | m + 1, h => by
    rw [← Nat.add_assoc]
    show (if σ (16 + (g + m)) = r then _ else _) = _
    rw [if_neg (h (g + m) (by omega) (by omega))]
    exact lnI_stay m (fun q h1 h2 => h q h1 (by omega))
/-- when the row is full none is yet to come -/
theorem ln_full {σ : Nat → Nat} (hV : VR σ) {r g : Nat} (hg : g ≤ σ 0) (h : 8 ≤ (lnI σ r g (lnO σ r)).length) : lnI σ r (σ 0) (lnO σ r) = lnI σ r g (lnO σ r) := by
  have e : σ 0 = g + (σ 0 - g) := by omega
  rw [e]
  refine lnI_stay _ (fun q h1 h2 hq => ?_)
  have h3 := ln_room (by omega) hq
  rw [lnI_len] at h h3
  have h4 := ctI_mono σ r h1
  have := hV.1
  omega
theorem ln_len {σ : Nat → Nat} (hV : VR σ) : (lnO σ 4).length = σ 0 := by
  rw [lnO_len]
  exact ctS_all σ 4 (σ 0) (fun g hg => (hV.2.2.1 g hg).1)
theorem lnI_mem {σ : Nat → Nat} {r : Nat} {acc : List Nat} {x : Nat} : ∀ g, x ∈ lnI σ r g acc → x ∈ acc ∨ (σ (16 + x) = r ∧ x < g)
  | 0, h => Or.inl h
  | g + 1, h => by
    unfold lnI at h
    split at h
    · rename_i hr
      rcases List.mem_append.mp h with h | h
      · rcases lnI_mem g h with h | h
        · exact Or.inl h
        · exact Or.inr ⟨h.1, by omega⟩
      · have e := List.mem_singleton.mp h
        exact Or.inr ⟨by rw [e]; exact hr, by omega⟩
    · rcases lnI_mem g h with h | h
      · exact Or.inl h
      · exact Or.inr ⟨h.1, by omega⟩
theorem lnO_mem {σ : Nat → Nat} {x : Nat} : ∀ r, x ∈ lnO σ r → σ (16 + x) < r ∧ x < σ 0
  | 0, h => by cases h
  | r + 1, h => by
    unfold lnO at h
    rcases lnI_mem _ h with h | h
    · have := lnO_mem r h
      exact ⟨by omega, this.2⟩
    · exact ⟨by omega, h.2⟩
theorem lnI_nd {σ : Nat → Nat} {r : Nat} {acc : List Nat} (ha : acc.Nodup) (hr : ∀ x ∈ acc, σ (16 + x) < r) : ∀ g, (lnI σ r g acc).Nodup
  | 0 => ha
  | g + 1 => by
    unfold lnI
    split
    · rename_i h
      refine List.nodup_append.mpr ⟨lnI_nd ha hr g, by simp, fun x hx z hz => ?_⟩
      rw [List.mem_singleton.mp hz]
      intro e
      rw [e] at hx
      rcases lnI_mem g hx with h1 | h1
      · have := hr g h1
        omega
      · omega
    · exact lnI_nd ha hr g
theorem lnO_nd (σ : Nat → Nat) : ∀ r, (lnO σ r).Nodup
  | 0 => List.nodup_nil
  | r + 1 => lnI_nd (lnO_nd σ r) (fun x hx => (lnO_mem r hx).1) _
theorem getD_mem {L : List Nat} {i : Nat} (h : i < L.length) : L.getD i 0 ∈ L := by
  rw [List.getD_eq_getElem?_getD, List.getElem?_eq_getElem h]
  exact List.getElem_mem h
theorem lnA_lt {σ : Nat → Nat} (hV : VR σ) {k : Nat} (h : k < σ 0) : lnA σ k < σ 0 := (lnO_mem 4 (getD_mem (by rw [ln_len hV]; exact h))).2
theorem getD_inj {L : List Nat} (hn : L.Nodup) {i k : Nat} (hi : i < L.length) (hk : k < L.length) (e : L.getD i 0 = L.getD k 0) : i = k := by
  rw [List.getD_eq_getElem?_getD, List.getD_eq_getElem?_getD, List.getElem?_eq_getElem hi, List.getElem?_eq_getElem hk] at e
  exact (List.getElem_inj hn).mp e
theorem zpos_lt {σ : Nat → Nat} {w k : Nat} (h : k < σ 0) : zpos σ w k < σ 0 := by
  have h0 : 0 < σ 0 := by omega
  unfold zpos
  split
  · exact Nat.mod_lt _ h0
  · split
    · split <;> omega
    · split
      · exact Nat.mod_lt _ h0
      · exact h
theorem mod_inj {n i k c : Nat} (hi : i < n) (hk : k < n) (e : (i + c) % n = (k + c) % n) : i = k := by
  have h1 := Nat.div_add_mod (i + c) n
  have h2 := Nat.div_add_mod (k + c) n
  rw [e] at h1
  rcases Nat.lt_trichotomy ((i + c) / n) ((k + c) / n) with q | q | q
  · have : n * ((i + c) / n) + n ≤ n * ((k + c) / n) := by
      rw [← Nat.mul_succ]; exact Nat.mul_le_mul_left n q
    omega
  · rw [q] at h1; omega
  · have : n * ((k + c) / n) + n ≤ n * ((i + c) / n) := by
      rw [← Nat.mul_succ]; exact Nat.mul_le_mul_left n q
    omega
theorem zpos_inj {σ : Nat → Nat} {w i k : Nat} (hi : i < σ 0) (hk : k < σ 0) (e : zpos σ w i = zpos σ w k) : i = k := by
  unfold zpos at e
  split at e
  · exact mod_inj hi hk e
  · split at e
    · split at e <;> omega
    · split at e
      · have hw : w % σ 0 < σ 0 := Nat.mod_lt _ (by omega)
        rw [show i + σ 0 - w % σ 0 = i + (σ 0 - w % σ 0) by omega, show k + σ 0 - w % σ 0 = k + (σ 0 - w % σ 0) by omega] at e
        exact mod_inj hi hk e
      · exact e
theorem oS_mem {σ : Nat → Nat} {w x : Nat} : ∀ k, x ∈ oS σ w k → ∃ i, i < k ∧ x = lnA σ (zpos σ w i) ∧ σ (32 + x) ≠ 1
  | 0, h => by cases h
  | k + 1, h => by
    unfold oS at h
    split at h
    · obtain ⟨i, h1, h2⟩ := oS_mem k h
      exact ⟨i, by omega, h2⟩
    · rename_i hn
      rcases List.mem_append.mp h with h | h
      · obtain ⟨i, h1, h2⟩ := oS_mem k h
        exact ⟨i, by omega, h2⟩
      · have e := List.mem_singleton.mp h
        exact ⟨k, by omega, e, by rw [e]; exact hn⟩
theorem oS_nd {σ : Nat → Nat} (hV : VR σ) (w : Nat) : ∀ k, k ≤ σ 0 → (oS σ w k).Nodup
  | 0, _ => List.nodup_nil
  | k + 1, hk => by
    unfold oS
    split
    · exact oS_nd hV w k (by omega)
    · refine List.nodup_append.mpr ⟨oS_nd hV w k (by omega), by simp, fun x hx z hz => ?_⟩
      rw [List.mem_singleton.mp hz]
      obtain ⟨i, h1, h2, -⟩ := oS_mem k hx
      intro e
      rw [h2] at e
      have h3 : zpos σ w i < σ 0 := zpos_lt (by omega)
      have h4 : zpos σ w k < σ 0 := zpos_lt (by omega)
      have h5 := getD_inj (lnO_nd σ 4) (by rw [ln_len hV]; exact h3) (by rw [ln_len hV]; exact h4) e
      have := zpos_inj (by omega) (by omega) h5
      omega
theorem oS_len {σ : Nat → Nat} {w : Nat} : ∀ k, (oS σ w k).length ≤ k
  | 0 => by simp [oS]
  | k + 1 => by
    have ih := oS_len (σ := σ) (w := w) k
    unfold oS
    split
    · omega
    · rw [List.length_append]; simp; omega
theorem oS_lt {σ : Nat → Nat} (hV : VR σ) {w k x : Nat} (hk : k ≤ σ 0) (h : x ∈ oS σ w k) : x < σ 0 := by
  obtain ⟨i, h1, rfl, -⟩ := oS_mem k h
  exact lnA_lt hV (zpos_lt (by omega))
theorem oL_lt {σ : Nat → Nat} (hV : VR σ) {w i : Nat} (h : i < (oL σ w).length) : (oL σ w).getD i 0 < σ 0 := oS_lt hV (Nat.le_refl _) (getD_mem h)
/-- a row holds a list -/
def zLst (a : zA) (k : Nat) (L : List Nat) : Prop := ∀ i, i < L.length → a k (nI i) = nI (L.getD i 0)
theorem zLst_push {a : zA} {k : Nat} {L : List Nat} (hl : L.length < 2 ^ 31) (h : zLst a k L) (g : Nat) : zLst (zuA a k (nI L.length) (nI g)) k (L ++ [g]) := by
  intro i hi
  rw [List.length_append] at hi
  simp at hi
  by_cases e : i = L.length
  · subst e
    rw [zuA_eq, List.getD_eq_getElem?_getD, List.getElem?_append_right (Nat.le_refl _)]
    simp
  · rw [zuA_ni (nI_ne (by omega) hl e), h i (by omega), List.getD_eq_getElem?_getD, List.getD_eq_getElem?_getD, List.getElem?_append_left (by omega)]
theorem zLst_of {a a' : zA} {k : Nat} {L : List Nat} (h : zLst a k L) (e : a' k = a k) : zLst a' k L := fun i hi => by rw [e]; exact h i hi
theorem zLst_nil {a : zA} {k : Nat} : zLst a k [] := fun i hi => by simp at hi
