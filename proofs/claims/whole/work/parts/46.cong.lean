/-! ===== what HAS depends on ===== -/
def Agr (σ τ : Nat → Nat) : Prop := ∀ i, (i < 4 ∨ (8 ≤ i ∧ i < 40)) → τ i = σ i
theorem g_lnI {σ τ : Nat → Nat} (h : Agr σ τ) (r : Nat) (acc : List Nat) : ∀ g, g ≤ 8 → lnI τ r g acc = lnI σ r g acc
  | 0, _ => rfl
  | g + 1, hg => by
    have ih := g_lnI h r acc g (by omega)
    show (if τ (16 + g) = r then lnI τ r g acc ++ [g] else lnI τ r g acc) = (if σ (16 + g) = r then lnI σ r g acc ++ [g] else lnI σ r g acc)
    rw [h (16 + g) (by omega), ih]
theorem g_lnO {σ τ : Nat → Nat} (h : Agr σ τ) (hn : σ 0 ≤ 8) : ∀ r, lnO τ r = lnO σ r
  | 0 => rfl
  | r + 1 => by
    have ih := g_lnO h hn r
    show lnI τ r (τ 0) (lnO τ r) = lnI σ r (σ 0) (lnO σ r)
    rw [h 0 (by omega), ih, g_lnI h r _ _ hn]
theorem g_lnA {σ τ : Nat → Nat} (h : Agr σ τ) (hn : σ 0 ≤ 8) (k : Nat) : lnA τ k = lnA σ k := by unfold lnA; rw [g_lnO h hn]
theorem g_zpos {σ τ : Nat → Nat} (h : Agr σ τ) (w k : Nat) : zpos τ w k = zpos σ w k := by unfold zpos; rw [h 0 (by omega), h 2 (by omega)]
theorem g_oS {σ τ : Nat → Nat} (h : Agr σ τ) (hV : VR σ) (w : Nat) : ∀ k, k ≤ σ 0 → oS τ w k = oS σ w k
  | 0, _ => rfl
  | k + 1, hk => by
    have ih := g_oS h hV w k (by omega)
    have h1 := lnA_lt hV (zpos_lt (σ := σ) (w := w) (k := k) (by omega))
    have h2 := hV.1
    show (if τ (32 + lnA τ (zpos τ w k)) = 1 then oS τ w k else oS τ w k ++ [lnA τ (zpos τ w k)]) = (if σ (32 + lnA σ (zpos σ w k)) = 1 then oS σ w k else oS σ w k ++ [lnA σ (zpos σ w k)])
    rw [g_zpos h, g_lnA h hV.1, h (32 + lnA σ (zpos σ w k)) (by omega), ih]
theorem g_oL {σ τ : Nat → Nat} (h : Agr σ τ) (hV : VR σ) (w : Nat) : oL τ w = oL σ w := by
  unfold oL
  rw [h 0 (by omega), g_oS h hV w _ (Nat.le_refl _)]
theorem g_lgF {σ τ : Nat → Nat} (h : Agr σ τ) (p : Nat) : ∀ m, p + m ≤ 30 → lgF τ p m = lgF σ p m
  | 0, _ => rfl
  | m + 1, hm => by
    have ih := g_lgF h p m (by omega)
    show lgF τ p m + τ (8 + (p + m)) = lgF σ p m + σ (8 + (p + m))
    rw [ih, h (8 + (p + m)) (by omega)]
theorem g_lgA {σ τ : Nat → Nat} (h : Agr σ τ) (hV : VR σ) {L : List Nat} (hL : ∀ i, i < L.length → L.getD i 0 < σ 0) {i : Nat} (hi : i < L.length) : lgA τ L i = lgA σ L i := by
  have hn := hV.1
  have h1 := hL i hi
  have e1 := h (16 + L.getD i 0) (by omega)
  have r1 := (hV.2.2.1 _ h1).1
  have e2 : lgP τ L i = lgP σ L i ∧ lgP σ L i ≤ 4 := by
    cases i with
    | zero => exact ⟨rfl, by show 0 ≤ 4; omega⟩
    | succ i =>
      have h2 := hL i (by omega)
      have r2 := (hV.2.2.1 _ h2).1
      refine ⟨?_, ?_⟩
      · show τ (16 + L.getD i 0) + 1 = σ (16 + L.getD i 0) + 1
        rw [h (16 + L.getD i 0) (by omega)]
      · show σ (16 + L.getD i 0) + 1 ≤ 4
        omega
  unfold lgA
  rw [e1, e2.1, g_lgF h _ _ (by omega)]
theorem g_lgS {σ τ : Nat → Nat} (h : Agr σ τ) (hV : VR σ) {L : List Nat} (hL : ∀ i, i < L.length → L.getD i 0 < σ 0) : ∀ i, i ≤ L.length → lgS τ L i = lgS σ L i
  | 0, _ => rfl
  | i + 1, hi => by
    have ih := g_lgS h hV hL i (by omega)
    show lgS τ L i + lgA τ L i = lgS σ L i + lgA σ L i
    rw [ih, g_lgA h hV hL (by omega)]
theorem g_left {σ τ : Nat → Nat} (h : Agr σ τ) (hV : VR σ) (w : Nat) : leftOf τ w = leftOf σ w := by
  unfold leftOf lagAll
  rw [h 1 (by omega), g_oL h hV, g_lgS h hV (fun i hi => oL_lt hV hi) _ (Nat.le_refl _)]
theorem g_shA {σ τ : Nat → Nat} (h : Agr σ τ) {S S' : Nat → Bool} (hS : ∀ g, g < 8 → S' g = S g) : ∀ g, g ≤ 8 → shA τ S' g = shA σ S g
  | 0, _ => rfl
  | g + 1, hg => by
    have ih := g_shA h hS g (by omega)
    show shA τ S' g + (if S' g = true then τ (24 + g) else 0) = shA σ S g + (if S g = true then σ (24 + g) else 0)
    rw [ih, hS g (by omega), h (24 + g) (by omega)]
theorem g_shB {σ τ : Nat → Nat} (h : Agr σ τ) {S S' : Nat → Bool} (hS : ∀ g, g < 8 → S' g = S g) {m all g : Nat} (hg : g < 8) : shB τ m S' all g = shB σ m S all g := by
  unfold shB
  rw [hS g hg, h (24 + g) (by omega)]
theorem g_shR {σ τ : Nat → Nat} (h : Agr σ τ) {S S' : Nat → Bool} (hS : ∀ g, g < 8 → S' g = S g) {m all g : Nat} (hg : g < 8) : shR τ m S' all g = shR σ m S all g := by
  unfold shR
  rw [hS g hg, h (24 + g) (by omega)]
theorem g_shT {σ τ : Nat → Nat} (h : Agr σ τ) {S S' : Nat → Bool} (hS : ∀ g, g < 8 → S' g = S g) {m all : Nat} : ∀ g, g ≤ 8 → shT τ m S' all g = shT σ m S all g
  | 0, _ => rfl
  | g + 1, hg => by
    have ih := g_shT h hS (m := m) (all := all) g (by omega)
    show shT τ m S' all g + shB τ m S' all g = shT σ m S all g + shB σ m S all g
    rw [ih, g_shB h hS (by omega)]
theorem g_bsF_le (R : Nat → Int32) : ∀ n, bsF R n ≤ n
  | 0 => Nat.le_refl _
  | n + 1 => by
    have ih := g_bsF_le R n
    show (if R (bsF R n) < R (n + 1) then n + 1 else bsF R n) ≤ n + 1
    split <;> omega
theorem g_bsF {R R' : Nat → Int32} : ∀ n, (∀ g, g ≤ n → R' g = R g) → bsF R' n = bsF R n
  | 0, _ => rfl
  | n + 1, h => by
    have ih := g_bsF (R := R) (R' := R') n (fun g hg => h g (by omega))
    have := g_bsF_le R n
    show (if R' (bsF R' n) < R' (n + 1) then n + 1 else bsF R' n) = (if R (bsF R n) < R (n + 1) then n + 1 else bsF R n)
    rw [ih, h (bsF R n) (by omega), h (n + 1) (by omega)]
theorem g_gvR {R R' : Nat → Int32} {n : Nat} (hn : n ≤ 8) (h : ∀ g, g < 8 → R' g = R g) : ∀ i g, g < 8 → gvR R' n i g = gvR R n i g
  | 0, g, hg => h g hg
  | i + 1, g, hg => by
    have ih := g_gvR hn h i
    show (if g = bsF (gvR R' n i) (n - 1) then -1 else gvR R' n i g) = (if g = bsF (gvR R n i) (n - 1) then -1 else gvR R n i g)
    rw [g_bsF (R := gvR R n i) (R' := gvR R' n i) (n - 1) (fun q hq => ih q (by omega)), ih g hg]
theorem g_gvP {R R' : Nat → Int32} {P P' : Nat → Nat} {n : Nat} (hn : n ≤ 8) (h : ∀ g, g < 8 → R' g = R g) (hP : ∀ g, g < 8 → P' g = P g) : ∀ i g, g < 8 → gvP P' R' n i g = gvP P R n i g
  | 0, g, hg => hP g hg
  | i + 1, g, hg => by
    have ih := g_gvP hn h hP i
    have ir := g_gvR hn h i
    show (if g = bsF (gvR R' n i) (n - 1) then gvP P' R' n i g + 1 else gvP P' R' n i g) = (if g = bsF (gvR R n i) (n - 1) then gvP P R n i g + 1 else gvP P R n i g)
    rw [g_bsF (R := gvR R n i) (R' := gvR R' n i) (n - 1) (fun q hq => ir q (by omega)), ih g hg]
theorem g_shr {σ τ : Nat → Nat} (h : Agr σ τ) (hn : σ 0 ≤ 8) {S S' : Nat → Bool} (hS : ∀ g, g < 8 → S' g = S g) {m g : Nat} (hg : g < 8) : shr τ m S' g = shr σ m S g := by
  unfold shr
  rw [h 0 (by omega), g_shA h hS _ hn, g_shT h hS _ hn, g_gvP hn (fun q hq => g_shR h hS hq) (fun q hq => g_shB h hS hq) _ g hg]
theorem g_prB {σ τ : Nat → Nat} (h : Agr σ τ) {g : Nat} (hg : g < 8) : prB τ g = prB σ g := by
  unfold prB
  rw [h 0 (by omega), h (32 + g) (by omega)]
theorem g_nrB {σ τ : Nat → Nat} (h : Agr σ τ) {i g : Nat} (hi : i < 8) (hg : g < 8) : nrB τ i g = nrB σ i g := by
  unfold nrB
  rw [g_prB h hg, h (16 + g) (by omega), h (16 + i) (by omega)]
theorem g_anB {σ τ : Nat → Nat} (h : Agr σ τ) {i : Nat} (hi : i < 8) : ∀ g, g ≤ 8 → anB τ i g = anB σ i g
  | 0, _ => rfl
  | g + 1, hg => by
    have ih := g_anB h hi g (by omega)
    show (anB τ i g || nrB τ i g) = (anB σ i g || nrB σ i g)
    rw [ih, g_nrB h hi (by omega)]
theorem g_toB {σ τ : Nat → Nat} (h : Agr σ τ) (hn : σ 0 ≤ 8) {i g : Nat} (hi : i < 8) (hg : g < 8) : toB τ i g = toB σ i g := by
  unfold toB
  rw [h 0 (by omega), g_anB h hi _ hn, g_nrB h hi hg, g_prB h hg]
theorem g_hvA {σ τ : Nat → Nat} (h : Agr σ τ) (hV : VR σ) (w : Nat) : ∀ i, i ≤ 8 → ∀ g, g < 8 → hvA τ w i g = hvA σ w i g
  | 0, _, g, hg => by
    show shr τ (leftOf τ w) (alB τ) g = shr σ (leftOf σ w) (alB σ) g
    rw [g_left h hV, g_shr h hV.1 (S := alB σ) (S' := alB τ) (fun q hq => by unfold alB; rw [h 0 (by omega)]) hg]
  | i + 1, hi, g, hg => by
    have ih := g_hvA h hV w i (by omega)
    show (if τ (32 + i) = 1 then fun g => (if g = i then 0 else hvA τ w i g) + shr τ (hvA τ w i i) (toB τ i) g else hvA τ w i) g = (if σ (32 + i) = 1 then fun g => (if g = i then 0 else hvA σ w i g) + shr σ (hvA σ w i i) (toB σ i) g else hvA σ w i) g
    rw [h (32 + i) (by omega)]
    split
    · show (if g = i then 0 else hvA τ w i g) + shr τ (hvA τ w i i) (toB τ i) g = (if g = i then 0 else hvA σ w i g) + shr σ (hvA σ w i i) (toB σ i) g
      rw [ih g hg, ih i (by omega), g_shr h hV.1 (fun q hq => g_toB h hV.1 (by omega) hq) hg]
    · exact ih g hg
theorem g_hvT {σ τ : Nat → Nat} (h : Agr σ τ) (hV : VR σ) (w : Nat) : ∀ k, (∀ i, i < k → τ (40 + i) = σ (40 + i) ∧ τ (52 + i) = σ (52 + i) ∧ τ (64 + i) = σ (64 + i) ∧ σ (40 + i) < 8 ∧ σ (52 + i) < 8) → ∀ g, g < 8 → hvT τ w k g = hvT σ w k g
  | 0, _, g, hg => by
    show hvA τ w (τ 0) g = hvA σ w (σ 0) g
    rw [h 0 (by omega), g_hvA h hV w _ hV.1 g hg]
  | k + 1, hk, g, hg => by
    have ih := g_hvT h hV w k (fun i hi => hk i (by omega))
    obtain ⟨e1, e2, e3, l1, l2⟩ := hk k (by omega)
    show hvM (hvT τ w k) (τ (40 + k)) (τ (52 + k)) (τ (64 + k)) g = hvM (hvT σ w k) (σ (40 + k)) (σ (52 + k)) (σ (64 + k)) g
    unfold hvM
    rw [e1, e2, e3, ih _ l1, ih _ l2, ih g hg]
