/-! ===== what is answered ===== -/
def sOf (σ : Nat → Nat) (v what : Int32) : Int32 :=
  if zHas v (σ 0) then
    (if what = nI 0 then nI (σ (16 + v.toNatClampNeg)) else if what = nI 1 then nI (σ (24 + v.toNatClampNeg)) else if what = nI 2 then nI (σ (32 + v.toNatClampNeg)) else if what = nI 3 then nI (hvOf σ (σ 3) true v.toNatClampNeg)
     else if what = nI 4 then begF σ (σ 3) true v.toNatClampNeg else if what = nI 5 then endF σ (σ 3) true v.toNatClampNeg else if what = nI 6 then nI (ngF σ (σ 3) true v.toNatClampNeg) else if what = nI 7 then nI (waF σ (σ 3) true v.toNatClampNeg) else if what = nI 8 then plS σ (σ 3) (σ 0) v.toNatClampNeg else -1)
  else -1
def sTurn (σ : Nat → Nat) (k : Int32) : Int32 := if zHas k (oL σ (σ 3)).length then nI ((oL σ (σ 3)).getD k.toNatClampNeg 0) else -1
def sLag (σ : Nat → Nat) (k : Int32) : Int32 := if zHas k (oL σ (σ 3)).length then nI (lgA σ (oL σ (σ 3)) k.toNatClampNeg) else -1
def sLine (σ : Nat → Nat) (k : Int32) : Int32 := if zHas k (σ 0) then nI (lnA σ k.toNatClampNeg) else -1
def sShared (σ : Nat → Nat) (n v : Int32) : Int32 := if zHas v (σ 0) then (if zBtw n 0 999 then nI (shr σ n.toNatClampNeg (alB σ) v.toNatClampNeg) else -2) else -1
def lsB (σ : Nat → Nat) : Int32 := btS (fun g => decide (hvOf (zup σ 1 (σ 1 + 1)) (σ 3) false g < hvOf σ (σ 3) false g)) (σ 0)
def sTold (σ : Nat → Nat) (what : Int32) : Int32 :=
  if what = nI 0 then nI (σ 0) else if what = nI 1 then nI (σ 1) else if what = nI 2 then nI (σ 2) else if what = nI 3 then nI (σ 3) else if what = nI 4 then nI (lagAll σ (σ 3)) else if what = nI 5 then nI (leftOf σ (σ 3))
  else if what = nI 6 then nI (sumF (hvOf σ (σ 3) true) (σ 0)) else if what = nI 7 then nI (oL σ (σ 3)).length else if what = nI 8 then nI (sumF (waF σ (σ 3) true) (σ 0)) else if what = nI 9 then nI (σ 4) else if what = nI 10 then nI (sumF (ngF σ (σ 3) true) (σ 0)) else if what = nI 11 then lsB σ else -1
/-- who has hour t -/
def WhoP (σ : Nat → Nat) (t : Nat) (r : Int32) : Prop :=
  (∃ i, i < (oL σ (σ 3)).length ∧ stN σ (σ 3) true i ≤ t ∧ t < stN σ (σ 3) true i + hvOf σ (σ 3) true ((oL σ (σ 3)).getD i 0) ∧ r = nI ((oL σ (σ 3)).getD i 0)) ∨
  ((∀ i, i < (oL σ (σ 3)).length → ¬ (stN σ (σ 3) true i ≤ t ∧ t < stN σ (σ 3) true i + hvOf σ (σ 3) true ((oL σ (σ 3)).getD i 0))) ∧ r = -5)
theorem tm_mono {σ : Nat → Nat} {L : List Nat} {hv : Nat → Nat} {i k : Nat} (h : i ≤ k) : tmS σ L hv i ≤ tmS σ L hv k := by
  induction k with
  | zero => rw [show i = 0 by omega]; exact Nat.le_refl _
  | succ k ih =>
    rcases Nat.lt_or_ge i (k + 1) with q | q
    · have := ih (by omega)
      rw [tmS_s]
      omega
    · rw [show i = k + 1 by omega]; exact Nat.le_refl _
theorem who_one {σ : Nat → Nat} {t i k : Nat} (hik : i < k) (h1 : t < stN σ (σ 3) true i + hvOf σ (σ 3) true ((oL σ (σ 3)).getD i 0)) (h2 : stN σ (σ 3) true k ≤ t) : False := by
  have h3 := tm_mono (σ := σ) (L := oL σ (σ 3)) (hv := hvOf σ (σ 3) true) (show i + 1 ≤ k by omega)
  rw [tmS_s] at h3
  unfold stN at h1 h2
  omega
theorem WhoP.uniq {σ : Nat → Nat} {t : Nat} {r r' : Int32} (h : WhoP σ t r) (g : WhoP σ t r') : r = r' := by
  rcases h with ⟨i, h1, h2, h3, h4⟩ | ⟨h1, h2⟩
  · rcases g with ⟨k, g1, g2, g3, g4⟩ | ⟨g1, g2⟩
    · rcases Nat.lt_trichotomy i k with q | q | q
      · exact absurd (who_one q h3 g2) id
      · rw [h4, g4, q]
      · exact absurd (who_one q g3 h2) id
    · exact absurd ⟨h2, h3⟩ (g1 i h1)
  · rcases g with ⟨k, g1, g2, g3, g4⟩ | ⟨g1, g2⟩
    · exact absurd ⟨g2, g3⟩ (h1 k g1)
    · rw [h2, g2]
/-- the first row that HAS otherwise -/
def foS (σ hv : Nat → Nat) (p q : Nat) : Nat → Nat → Int32
  | _, 0 => -5
  | k, m + 1 => if hv (σ (p + k)) = σ (q + k) then foS σ hv p q (k + 1) m else nI k
theorem or_z (x : Int32) : x ||| nI 0 = x := by
  apply b_ext
  intro i hi
  rw [b_or, bt_zero]
  simp
theorem zup_self {σ : Nat → Nat} {i : Nat} : zup σ i (σ i) = σ := by
  funext k
  unfold zup
  split
  · rename_i h; rw [h]
  · rfl
def fitB (σ : Nat → Nat) (h : Nat) : Bool := decide (foS σ (hvOf (zup σ 1 h) (σ 3) false) 76 81 0 (σ 5) = -5)
def ftN (σ : Nat → Nat) : Nat → Nat
  | 0 => 0
  | m + 1 => if fitB σ (8 + m) = true then ftN σ m + 1 else ftN σ m
def ftL (σ : Nat → Nat) : Nat → Int32
  | 0 => -5
  | m + 1 => if fitB σ (8 + m) = true then (if ftL σ m = -5 then nI (8 + m) else ftL σ m) else ftL σ m
def sFits (σ : Nat → Nat) (what : Int32) : Int32 := if zBtw what 0 1 then (if what = nI 0 then nI (ftN σ 89) else ftL σ 89) else -1
def sNO : Int64 := -9223372036854775808
def sFrac (x y : Nat) (part : Int32) : Int64 := if y = 0 ∨ ¬ zBtw part 0 1 then sNO else if part = nI 0 then lN (x / Nat.gcd x y) else lN (y / Nat.gcd x y)
def odN (σ : Nat → Nat) (g : Nat) : Nat → Nat
  | 0 => 0
  | m + 1 => if 0 < ngF (zup σ 1 (20 + m)) (σ 3) false g then odN σ g m + 1 else odN σ g m
def sOdds (σ : Nat → Nat) (v part : Int32) : Int64 := if zHas v (σ 0) then sFrac (odN σ v.toNatClampNeg 10) 10 part else sNO
def sMean (σ : Nat → Nat) (part : Int32) : Int64 := sFrac (sumF (waF σ (σ 3) true) (σ 0)) (σ 0) part
def ovF (σ : Nat → Nat) (g : Nat) (b : Bool) : Nat → Nat
  | 0 => 0
  | i + 1 => ovF σ g b i + (if b = true then hvOf σ (σ 3 + i) (decide (i = 0)) g else ngF σ (σ 3 + i) (decide (i = 0)) g)
def sOver (σ : Nat → Nat) (v n what : Int32) : Int32 := if zHas v (σ 0) ∧ zBtw what 0 1 then (if zBtw n 1 12 then nI (ovF σ v.toNatClampNeg (decide (what = nI 0)) n.toNatClampNeg) else -2) else -1
/-- hours by NIGHT over m WEEKS, the most and the fewest of those that are there -/
def unF (σ : Nat → Nat) (g : Nat) : Nat → Nat
  | 0 => 0
  | i + 1 => unF σ g i + ngF σ (σ 3 + i) false g
def mxO (P : Nat → Bool) (x : Nat → Nat) : Nat → Option Nat
  | 0 => none
  | g + 1 => if P g = true then some (match mxO P x g with | none => x g | some y => if y < x g then x g else y) else mxO P x g
def mnO (P : Nat → Bool) (x : Nat → Nat) : Nat → Option Nat
  | 0 => none
  | g + 1 => if P g = true then some (match mnO P x g with | none => x g | some y => if x g < y then x g else y) else mnO P x g
def unO (σ : Nat → Nat) (m : Nat) : Nat := (mxO (prB σ) (fun g => unF σ g m) (σ 0)).getD 0 - (mnO (prB σ) (fun g => unF σ g m) (σ 0)).getD 0
def sUneven (σ : Nat → Nat) (n : Int32) : Int32 := if zBtw n 1 12 then nI (unO σ n.toNatClampNeg) else -2
def evF (u : Nat → Nat) : Nat → Nat
  | 0 => 0
  | r + 1 => if u (r + 1) < u (evF u r) then r + 1 else evF u r
def sEvenest (σ : Nat → Nat) (n : Int32) : Int32 := if zBtw n 1 12 then nI (evF (fun r => unO (zup σ 2 r) n.toNatClampNeg) 3) else -2
