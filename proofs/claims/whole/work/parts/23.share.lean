/-! ===== facts on LAGS and on what is SHARED OUT ===== -/
theorem lgF_le {σ : Nat → Nat} (hV : VR σ) (p : Nat) : ∀ m, p + m ≤ 4 → lgF σ p m ≤ 9 * m
  | 0, _ => Nat.le_refl _
  | m + 1, h => by
    have ih := lgF_le hV p m (by omega)
    have h1 := (hV.2.2.2 (p + m) (by omega)).1
    show lgF σ p m + σ (8 + (p + m)) ≤ _
    omega
theorem lgA_le {σ : Nat → Nat} (hV : VR σ) {L : List Nat} {i : Nat} (h : σ (16 + L.getD i 0) < 4) : lgA σ L i ≤ 36 := by
  unfold lgA
  rcases Nat.lt_or_ge (σ (16 + L.getD i 0) + 1) (lgP σ L i) with q | q
  · rw [show σ (16 + L.getD i 0) + 1 - lgP σ L i = 0 by omega]
    show (0 : Nat) ≤ 36
    omega
  · have := lgF_le hV (lgP σ L i) (σ (16 + L.getD i 0) + 1 - lgP σ L i) (by omega)
    omega
theorem lgS_le {σ : Nat → Nat} (hV : VR σ) {L : List Nat} : ∀ i, (∀ q, q < i → σ (16 + L.getD q 0) < 4) → lgS σ L i ≤ 36 * i
  | 0, _ => Nat.le_refl _
  | i + 1, h => by
    have ih := lgS_le hV (L := L) i (fun q hq => h q (by omega))
    have h1 := lgA_le hV (h i (by omega))
    show lgS σ L i + lgA σ L i ≤ _
    omega
theorem shA_s (σ : Nat → Nat) (S : Nat → Bool) (g : Nat) : shA σ S (g + 1) = shA σ S g + (if S g = true then σ (24 + g) else 0) := rfl
theorem shT_s (σ : Nat → Nat) (m : Nat) (S : Nat → Bool) (all g : Nat) : shT σ m S all (g + 1) = shT σ m S all g + shB σ m S all g := rfl
theorem shA_tail {σ : Nat → Nat} {S : Nat → Bool} {n : Nat} (h : ∀ g, n ≤ g → S g = false) : ∀ m, shA σ S (n + m) = shA σ S n
  | 0 => rfl
  | m + 1 => by rw [← Nat.add_assoc, shA_s, shA_tail h m, h (n + m) (by omega)]; simp
theorem shT_tail {σ : Nat → Nat} {q : Nat} {S : Nat → Bool} {all n : Nat} (h : ∀ g, n ≤ g → S g = false) : ∀ m, shT σ q S all (n + m) = shT σ q S all n
  | 0 => rfl
  | m + 1 => by rw [← Nat.add_assoc, shT_s, shT_tail h m]; unfold shB; rw [h (n + m) (by omega)]; simp
theorem shA_8 {σ : Nat → Nat} {S : Nat → Bool} (hn : σ 0 ≤ 8) (h : ∀ g, σ 0 ≤ g → S g = false) : shA σ S 8 = shA σ S (σ 0) := by
  have := shA_tail h (8 - σ 0) (σ := σ)
  rwa [show σ 0 + (8 - σ 0) = 8 by omega] at this
theorem shT_8 {σ : Nat → Nat} {S : Nat → Bool} {m all : Nat} (hn : σ 0 ≤ 8) (h : ∀ g, σ 0 ≤ g → S g = false) : shT σ m S all 8 = shT σ m S all (σ 0) := by
  have := shT_tail h (8 - σ 0) (σ := σ) (q := m) (all := all)
  rwa [show σ 0 + (8 - σ 0) = 8 by omega] at this
theorem shA_mono {σ : Nat → Nat} {S : Nat → Bool} {p q : Nat} (h : p ≤ q) : shA σ S p ≤ shA σ S q := by
  induction q with
  | zero => rw [show p = 0 by omega]; exact Nat.le_refl _
  | succ n ih =>
    rcases Nat.lt_or_ge p (n + 1) with z | z
    · have := ih (by omega)
      rw [shA_s]
      omega
    · rw [show p = n + 1 by omega]; exact Nat.le_refl _
theorem shT_mono {σ : Nat → Nat} {m all : Nat} {S : Nat → Bool} {p q : Nat} (h : p ≤ q) : shT σ m S all p ≤ shT σ m S all q := by
  induction q with
  | zero => rw [show p = 0 by omega]; exact Nat.le_refl _
  | succ n ih =>
    rcases Nat.lt_or_ge p (n + 1) with z | z
    · have := ih (by omega)
      rw [shT_s]
      omega
    · rw [show p = n + 1 by omega]; exact Nat.le_refl _
theorem shT_mul (σ : Nat → Nat) (m : Nat) (S : Nat → Bool) {all : Nat} (ha : 0 < all) : ∀ g, shT σ m S all g * all ≤ m * shA σ S g ∧ m * shA σ S g ≤ shT σ m S all g * all + g * all
  | 0 => by simp [shT, shA]
  | g + 1 => by
    have ih := shT_mul σ m S ha g
    rw [shT_s, shA_s]
    unfold shB
    by_cases h : S g = true
    · rw [if_pos h, if_pos h]
      have e := Nat.div_add_mod (m * σ (24 + g)) all
      have l := Nat.mod_lt (m * σ (24 + g)) ha
      rw [Nat.mul_comm] at e
      rw [Nat.add_mul, Nat.mul_add, Nat.add_mul g 1 all, Nat.one_mul]
      omega
    · rw [if_neg h, if_neg h]
      rw [Nat.add_mul g 1 all, Nat.one_mul, Nat.add_zero, Nat.add_zero]
      omega
theorem shT_le {σ : Nat → Nat} {m : Nat} {S : Nat → Bool} {g n : Nat} (ha : 0 < shA σ S n) (hg : g ≤ n) : shT σ m S (shA σ S n) g ≤ m := by
  have h1 := (shT_mul σ m S ha g).1
  have h2 := shA_mono (σ := σ) (S := S) hg
  have h3 : m * shA σ S g ≤ m * shA σ S n := Nat.mul_le_mul_left m h2
  exact Nat.le_of_mul_le_mul_right (Nat.le_trans h1 h3) ha
theorem sh_over {σ : Nat → Nat} {m : Nat} {S : Nat → Bool} {n : Nat} (ha : 0 < shA σ S n) : m - shT σ m S (shA σ S n) n ≤ n := by
  have h1 := (shT_mul σ m S ha n).2
  rw [← Nat.add_mul] at h1
  have := Nat.le_of_mul_le_mul_right h1 ha
  omega
theorem bsF_le (R : Nat → Int32) : ∀ g, bsF R g ≤ g
  | 0 => Nat.le_refl _
  | g + 1 => by
    have := bsF_le R g
    unfold bsF
    split <;> omega
theorem bsF_tail {R : Nat → Int32} {n : Nat} (h1 : ∀ g, n < g → R g = -1) (h2 : ∀ g, -1 ≤ R g) : ∀ m, bsF R (n + m) = bsF R n
  | 0 => rfl
  | m + 1 => by
    rw [← Nat.add_assoc]
    show (if R (bsF R (n + m)) < R (n + m + 1) then _ else _) = _
    rw [if_neg (by rw [h1 (n + m + 1) (by omega)]; exact Int32.not_lt.mpr (h2 _))]
    exact bsF_tail h1 h2 m
theorem gvR_s (R : Nat → Int32) (n i g : Nat) : gvR R n (i + 1) g = if g = bsF (gvR R n i) (n - 1) then -1 else gvR R n i g := rfl
theorem gvP_s (P : Nat → Nat) (R : Nat → Int32) (n i g : Nat) : gvP P R n (i + 1) g = if g = bsF (gvR R n i) (n - 1) then gvP P R n i g + 1 else gvP P R n i g := rfl
theorem gvR_m1 {R : Nat → Int32} {n p : Nat} (h : ∀ g, p < g → R g = -1) : ∀ i g, p < g → gvR R n i g = -1
  | 0, g, hg => h g hg
  | i + 1, g, hg => by
    rw [gvR_s]
    split
    · rfl
    · exact gvR_m1 h i g hg
theorem gvR_ge {R : Nat → Int32} {n : Nat} (h : ∀ g, -1 ≤ R g) : ∀ i g, -1 ≤ gvR R n i g
  | 0, g => h g
  | i + 1, g => by
    rw [gvR_s]
    split
    · decide
    · exact gvR_ge h i g
theorem gvP_le (P : Nat → Nat) (R : Nat → Int32) (n : Nat) : ∀ i g, gvP P R n i g ≤ P g + i
  | 0, g => Nat.le_refl _
  | i + 1, g => by
    have := gvP_le P R n i g
    rw [gvP_s]
    split <;> omega
theorem shR_ge {σ : Nat → Nat} {m : Nat} {S : Nat → Bool} {all : Nat} (ha : 0 < all) (hb : all < 2 ^ 31) (g : Nat) : -1 ≤ shR σ m S all g := by
  unfold shR
  split
  · have h : m * σ (24 + g) % all < 2 ^ 31 := Nat.lt_trans (Nat.mod_lt _ ha) hb
    rw [Int32.le_iff_toInt_le, nI_toInt h]
    show (-1 : Int) ≤ _
    omega
  · exact Int32.le_refl _
theorem shA_le {σ : Nat → Nat} (hV : VR σ) {S : Nat → Bool} : ∀ g, g ≤ σ 0 → shA σ S g ≤ 9 * g
  | 0, _ => Nat.le_refl _
  | g + 1, h => by
    have ih := shA_le hV (S := S) g (by omega)
    have h1 := (hV.2.2.1 g (by omega)).2.1.2
    rw [shA_s]
    split <;> omega
theorem shr_le {σ : Nat → Nat} (hV : VR σ) {m : Nat} {S : Nat → Bool} {g : Nat} (hg : g < σ 0) : shr σ m S g ≤ m + 8 := by
  unfold shr
  split
  · omega
  · rename_i h
    have ha : 0 < shA σ S (σ 0) := by omega
    have h1 := gvP_le (shB σ m S (shA σ S (σ 0))) (shR σ m S (shA σ S (σ 0))) (σ 0) (m - shT σ m S (shA σ S (σ 0)) (σ 0)) g
    have h2 := sh_over (m := m) ha
    have h3 := shT_le (m := m) ha (Nat.le_refl _)
    have h4 : shT σ m S (shA σ S (σ 0)) (g + 1) ≤ shT σ m S (shA σ S (σ 0)) (σ 0) := shT_mono (by omega)
    rw [shT_s] at h4
    have := hV.1
    omega
theorem gvP_off {P : Nat → Nat} {R : Nat → Int32} {n : Nat} (hn : 0 < n) : ∀ i g, n ≤ g → gvP P R n i g = P g
  | 0, _, _ => rfl
  | i + 1, g, hg => by
    have h := bsF_le (gvR R n i) (n - 1)
    rw [gvP_s, if_neg (by omega)]
    exact gvP_off hn i g hg
theorem shr_off {σ : Nat → Nat} {m g : Nat} {S : Nat → Bool} (hS : ∀ g, σ 0 ≤ g → S g = false) (hg : σ 0 ≤ g) : shr σ m S g = 0 := by
  unfold shr
  by_cases h : shA σ S (σ 0) = 0
  · rw [if_pos h]
  · rw [if_neg h]
    have h0 : 0 < σ 0 := by
      rcases Nat.eq_zero_or_pos (σ 0) with e | e
      · rw [e] at h
        exact absurd rfl h
      · exact e
    rw [gvP_off h0 _ _ hg]
    unfold shB
    rw [hS g hg]
    rfl
