/-! ===== hours are kept: no FIELD has more than 97; places ===== -/
def sumF (x : Nat → Nat) : Nat → Nat
  | 0 => 0
  | g + 1 => sumF x g + x g
theorem sumF_s (x : Nat → Nat) (g : Nat) : sumF x (g + 1) = sumF x g + x g := rfl
theorem sumF_ext {x y : Nat → Nat} : ∀ n, (∀ g, g < n → x g = y g) → sumF x n = sumF y n
  | 0, _ => rfl
  | n + 1, h => by rw [sumF_s, sumF_s, sumF_ext n (fun g hg => h g (by omega)), h n (by omega)]
theorem sumF_add (x y : Nat → Nat) : ∀ n, sumF (fun g => x g + y g) n = sumF x n + sumF y n
  | 0 => rfl
  | n + 1 => by
    have ih := sumF_add x y n
    rw [sumF_s, sumF_s, sumF_s, ih]
    omega
theorem sumF_one {x y : Nat → Nat} {b : Nat} (hb : y b = x b + 1) (ho : ∀ g, g ≠ b → y g = x g) : ∀ n, sumF y n = sumF x n + (if b < n then 1 else 0)
  | 0 => by simp [sumF]
  | n + 1 => by
    have ih := sumF_one hb ho n
    rw [sumF_s, sumF_s, ih]
    by_cases e : n = b
    · subst e
      rw [hb, if_neg (by omega), if_pos (by omega)]
      omega
    · rw [ho n e]
      by_cases q : b < n
      · rw [if_pos q, if_pos (by omega)]; omega
      · rw [if_neg q, if_neg (by omega)]; omega
theorem sumF_cut {x y : Nat → Nat} {b : Nat} (hb : y b = 0) (ho : ∀ g, g ≠ b → y g = x g) : ∀ n, sumF y n + (if b < n then x b else 0) = sumF x n
  | 0 => by simp [sumF]
  | n + 1 => by
    have ih := sumF_cut hb ho n
    rw [sumF_s, sumF_s]
    by_cases e : n = b
    · rw [if_neg (by omega)] at ih
      rw [if_pos (by omega), e, hb, ← e]
      rw [e] at ih ⊢
      omega
    · rw [ho n e]
      by_cases q : b < n
      · rw [if_pos q] at ih
        rw [if_pos (by omega)]; omega
      · rw [if_neg q] at ih
        rw [if_neg (by omega)]; omega
theorem sumF_le {x : Nat → Nat} {g : Nat} : ∀ n, g < n → x g ≤ sumF x n
  | 0, h => by omega
  | n + 1, h => by
    rw [sumF_s]
    by_cases e : g = n
    · rw [e]; omega
    · have := sumF_le (x := x) n (show g < n by omega)
      omega
theorem gvP_sum (P : Nat → Nat) (R : Nat → Int32) {n : Nat} (hn : 0 < n) : ∀ i, sumF (gvP P R n i) n = sumF P n + i
  | 0 => rfl
  | i + 1 => by
    have ih := gvP_sum P R hn i
    have hb := bsF_le (gvR R n i) (n - 1)
    rw [sumF_one (x := gvP P R n i) (y := gvP P R n (i + 1)) (b := bsF (gvR R n i) (n - 1)) (by rw [gvP_s, if_pos rfl]) (fun g hg => by rw [gvP_s, if_neg hg]) n, ih, if_pos (by omega)]
    omega
theorem shT_sum (σ : Nat → Nat) (m : Nat) (S : Nat → Bool) (all : Nat) : ∀ n, sumF (shB σ m S all) n = shT σ m S all n
  | 0 => rfl
  | n + 1 => by rw [sumF_s, shT_s, shT_sum σ m S all n]
theorem shr_sum {σ : Nat → Nat} (m : Nat) (S : Nat → Bool) : sumF (shr σ m S) (σ 0) ≤ m := by
  by_cases h : shA σ S (σ 0) = 0
  · have e : sumF (shr σ m S) (σ 0) = sumF (fun _ => 0) (σ 0) := sumF_ext _ (fun g _ => by unfold shr; rw [if_pos h])
    have z : ∀ n, sumF (fun _ => 0) n = 0 := by
      intro n
      induction n with
      | zero => rfl
      | succ n ih => rw [sumF_s, ih]
    rw [e, z]
    omega
  · have hn : 0 < σ 0 := by
      rcases Nat.eq_zero_or_pos (σ 0) with q | q
      · rw [q] at h; exact absurd rfl h
      · exact q
    have ha : 0 < shA σ S (σ 0) := by omega
    have e : sumF (shr σ m S) (σ 0) = sumF (gvP (shB σ m S (shA σ S (σ 0))) (shR σ m S (shA σ S (σ 0))) (σ 0) (m - shT σ m S (shA σ S (σ 0)) (σ 0))) (σ 0) := sumF_ext _ (fun g _ => by unfold shr; rw [if_neg h])
    rw [e, gvP_sum _ _ hn, shT_sum]
    have := shT_le (m := m) ha (Nat.le_refl _)
    omega
theorem hvA_sum {σ : Nat → Nat} (w : Nat) : ∀ i, i ≤ σ 0 → sumF (hvA σ w i) (σ 0) ≤ leftOf σ w
  | 0, _ => shr_sum _ _
  | i + 1, hi => by
    have ih := hvA_sum (σ := σ) w i (by omega)
    by_cases h : σ (32 + i) = 1
    · have e : hvA σ w (i + 1) = fun g => (if g = i then 0 else hvA σ w i g) + shr σ (hvA σ w i i) (toB σ i) g := by
        show (if _ then _ else _) = _
        rw [if_pos h]
      rw [e, sumF_add]
      have h1 := sumF_cut (x := hvA σ w i) (y := fun g => if g = i then 0 else hvA σ w i g) (b := i) (by simp) (fun g hg => by simp [hg]) (σ 0)
      rw [if_pos (by omega)] at h1
      have h2 := shr_sum (σ := σ) (hvA σ w i i) (toB σ i)
      omega
    · have e : hvA σ w (i + 1) = hvA σ w i := by
        show (if _ then _ else _) = _
        rw [if_neg h]
      rw [e]
      exact ih
theorem sumF_up {x : Nat → Nat} {b v : Nat} : ∀ n, b < n → sumF (fun g => if g = b then v else x g) n + x b = sumF x n + v
  | 0, h => by omega
  | n + 1, h => by
    rw [sumF_s, sumF_s]
    by_cases e : n = b
    · subst e
      rw [if_pos rfl, sumF_ext (x := fun g => if g = n then v else x g) (y := x) n (fun g hg => if_neg (by omega))]
      omega
    · have ih := sumF_up (x := x) (b := b) (v := v) n (by omega)
      rw [if_neg e]
      omega
theorem hvM_sum {x : Nat → Nat} {p q h n : Nat} (hp : p < n) (hq : q < n) (hh : h ≤ x p) : sumF (hvM x p q h) n = sumF x n := by
  have e : hvM x p q h = fun g => if g = q then (if q = p then x p - h else x q) + h else if g = p then x p - h else x g := rfl
  have h1 := sumF_up (x := fun g => if g = p then x p - h else x g) (b := q) (v := (if q = p then x p - h else x q) + h) n hq
  have h2 := sumF_up (x := x) (b := p) (v := x p - h) n hp
  rw [e]
  by_cases z : q = p
  · rw [if_pos z] at h1 ⊢
    omega
  · rw [if_neg z] at h1 ⊢
    omega
theorem hvT_sum {σ : Nat → Nat} {w : Nat} : ∀ k, (∀ q, q < k → σ (40 + q) < σ 0 ∧ σ (52 + q) < σ 0 ∧ σ (64 + q) ≤ hvT σ w q (σ (40 + q))) → sumF (hvT σ w k) (σ 0) ≤ leftOf σ w
  | 0, _ => hvA_sum w (σ 0) (Nat.le_refl _)
  | k + 1, h => by
    have ih := hvT_sum (σ := σ) (w := w) k (fun q hq => h q (by omega))
    obtain ⟨h1, h2, h3⟩ := h k (by omega)
    have e : hvT σ w (k + 1) = hvM (hvT σ w k) (σ (40 + k)) (σ (52 + k)) (σ (64 + k)) := rfl
    rw [e, hvM_sum h1 h2 h3]
    exact ih
theorem hv_sum {σ : Nat → Nat} {w : Nat} {tr : Bool} (hT : tr = true → σ 4 ≤ 12 ∧ ∀ k, k < σ 4 → σ (40 + k) < σ 0 ∧ σ (52 + k) < σ 0 ∧ σ (64 + k) ≤ hvT σ w k (σ (40 + k))) : sumF (hvOf σ w tr) (σ 0) ≤ leftOf σ w := by
  unfold hvOf
  cases tr with
  | false => exact hvT_sum 0 (fun q hq => by omega)
  | true => exact hvT_sum (σ 4) (hT rfl).2
theorem plS_in {σ : Nat → Nat} (hV : VR σ) {w : Nat} : ∀ k, k ≤ σ 0 → ∀ i, i < (oS σ w k).length → plS σ w k ((oS σ w k).getD i 0) = nI i
  | 0, _, i, hi => by simp [oS] at hi
  | k + 1, hk, i, hi => by
    have ih := plS_in hV (w := w) k (by omega)
    have hnd := oS_nd hV w (k + 1) hk
    by_cases h : σ (32 + lnA σ (zpos σ w k)) = 1
    · have e1 : oS σ w (k + 1) = oS σ w k := by
        show (if _ then _ else _) = _
        rw [if_pos h]
      have e2 : plS σ w (k + 1) = plS σ w k := by
        show (if _ then _ else _) = _
        rw [if_pos h]
      rw [e1] at hi ⊢
      rw [e2]
      exact ih i hi
    · have e1 : oS σ w (k + 1) = oS σ w k ++ [lnA σ (zpos σ w k)] := by
        show (if _ then _ else _) = _
        rw [if_neg h]
      have e2 : plS σ w (k + 1) = fun g => if g = lnA σ (zpos σ w k) then nI (oS σ w k).length else plS σ w k g := by
        show (if _ then _ else _) = _
        rw [if_neg h]
      rw [e1] at hi hnd ⊢
      rw [e2]
      dsimp only
      rw [List.length_append] at hi
      simp only [List.length_singleton] at hi
      by_cases e : i = (oS σ w k).length
      · have e3 : (oS σ w k ++ [lnA σ (zpos σ w k)]).getD i 0 = lnA σ (zpos σ w k) := by
          rw [e, List.getD_eq_getElem?_getD, List.getElem?_append_right (Nat.le_refl _)]
          simp
        rw [e3, if_pos rfl, e]
      · have e3 : (oS σ w k ++ [lnA σ (zpos σ w k)]).getD i 0 = (oS σ w k).getD i 0 := by
          rw [List.getD_eq_getElem?_getD, List.getD_eq_getElem?_getD, List.getElem?_append_left (by omega)]
        have hm : (oS σ w k).getD i 0 ∈ oS σ w k := getD_mem (by omega)
        have hne : (oS σ w k).getD i 0 ≠ lnA σ (zpos σ w k) := (List.nodup_append.mp hnd).2.2 _ hm _ (List.mem_singleton.mpr rfl)
        rw [e3, if_neg hne]
        exact ih i (by omega)
theorem plS_out {σ : Nat → Nat} {w g : Nat} : ∀ k, g ∉ oS σ w k → plS σ w k g = -5
  | 0, _ => rfl
  | k + 1, h => by
    by_cases z : σ (32 + lnA σ (zpos σ w k)) = 1
    · have e1 : oS σ w (k + 1) = oS σ w k := by
        show (if _ then _ else _) = _
        rw [if_pos z]
      have e2 : plS σ w (k + 1) = plS σ w k := by
        show (if _ then _ else _) = _
        rw [if_pos z]
      rw [e2]
      exact plS_out k (by rw [← e1]; exact h)
    · have e1 : oS σ w (k + 1) = oS σ w k ++ [lnA σ (zpos σ w k)] := by
        show (if _ then _ else _) = _
        rw [if_neg z]
      have e2 : plS σ w (k + 1) = fun g => if g = lnA σ (zpos σ w k) then nI (oS σ w k).length else plS σ w k g := by
        show (if _ then _ else _) = _
        rw [if_neg z]
      rw [e1, List.mem_append, List.mem_singleton] at h
      rw [e2]
      dsimp only
      rw [if_neg (fun q => h (Or.inr q))]
      exact plS_out k (fun q => h (Or.inl q))
theorem mem_getD {L : List Nat} {g : Nat} (h : g ∈ L) : ∃ i, i < L.length ∧ L.getD i 0 = g := by
  obtain ⟨i, hi, e⟩ := List.getElem_of_mem h
  exact ⟨i, hi, by rw [List.getD_eq_getElem?_getD, List.getElem?_eq_getElem hi]; exact e⟩
theorem nI_n5 {i : Nat} (h : i < 2 ^ 31) : ¬ nI i = -5 := by
  intro e
  have h1 := congrArg Int32.toInt e
  rw [nI_toInt h] at h1
  have h2 : (-5 : Int32).toInt = -5 := by decide
  omega
/-- a FIELD has a TURN, or none -/
theorem pl_cases {σ : Nat → Nat} (hV : VR σ) (w g : Nat) : (∃ i, i < (oL σ w).length ∧ (oL σ w).getD i 0 = g ∧ plS σ w (σ 0) g = nI i) ∨ (g ∉ oL σ w ∧ plS σ w (σ 0) g = -5) := by
  rcases Classical.em (g ∈ oL σ w) with h | h
  · obtain ⟨i, h1, h2⟩ := mem_getD h
    refine Or.inl ⟨i, h1, h2, ?_⟩
    rw [← h2]
    exact plS_in hV _ (Nat.le_refl _) i h1
  · exact Or.inr ⟨h, plS_out _ h⟩
