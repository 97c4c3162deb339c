/-! ===== WHAT IS WORKED OUT, over the numbers σ of a state (laid as the reference lays its row s) ===== -/
/-- the LINE -/
def lnI (σ : Nat → Nat) (r : Nat) : Nat → List Nat → List Nat
  | 0, acc => acc
  | g + 1, acc => if σ (16 + g) = r then lnI σ r g acc ++ [g] else lnI σ r g acc
def lnO (σ : Nat → Nat) : Nat → List Nat
  | 0 => []
  | r + 1 => lnI σ r (σ 0) (lnO σ r)
def lnA (σ : Nat → Nat) (k : Nat) : Nat := (lnO σ 4).getD k 0
/-- where in the LINE the one stands that comes at k in WEEK w -/
def zpos (σ : Nat → Nat) (w k : Nat) : Nat := if σ 2 = 1 then (k + w) % σ 0 else if σ 2 = 2 then (if w % 2 = 0 then k else σ 0 - 1 - k) else if σ 2 = 3 then (k + σ 0 - w % σ 0) % σ 0 else k
/-- the TURNS -/
def oS (σ : Nat → Nat) (w : Nat) : Nat → List Nat
  | 0 => []
  | k + 1 => if σ (32 + lnA σ (zpos σ w k)) = 1 then oS σ w k else oS σ w k ++ [lnA σ (zpos σ w k)]
def oL (σ : Nat → Nat) (w : Nat) : List Nat := oS σ w (σ 0)
/-- LAGS -/
def lgF (σ : Nat → Nat) (p : Nat) : Nat → Nat
  | 0 => 0
  | m + 1 => lgF σ p m + σ (8 + (p + m))
def lgP (σ : Nat → Nat) (L : List Nat) : Nat → Nat
  | 0 => 0
  | i + 1 => σ (16 + L.getD i 0) + 1
def lgA (σ : Nat → Nat) (L : List Nat) (i : Nat) : Nat := lgF σ (lgP σ L i) (σ (16 + L.getD i 0) + 1 - lgP σ L i)
def lgS (σ : Nat → Nat) (L : List Nat) : Nat → Nat
  | 0 => 0
  | i + 1 => lgS σ L i + lgA σ L i
def lagAll (σ : Nat → Nat) (w : Nat) : Nat := lgS σ (oL σ w) (oL σ w).length
def leftOf (σ : Nat → Nat) (w : Nat) : Nat := σ 1 - lagAll σ w
/-- SHARED OUT: m among those of S -/
def shA (σ : Nat → Nat) (S : Nat → Bool) : Nat → Nat
  | 0 => 0
  | g + 1 => shA σ S g + (if S g = true then σ (24 + g) else 0)
def shB (σ : Nat → Nat) (m : Nat) (S : Nat → Bool) (all g : Nat) : Nat := if S g = true then m * σ (24 + g) / all else 0
def shT (σ : Nat → Nat) (m : Nat) (S : Nat → Bool) (all : Nat) : Nat → Nat
  | 0 => 0
  | g + 1 => shT σ m S all g + shB σ m S all g
def shR (σ : Nat → Nat) (m : Nat) (S : Nat → Bool) (all g : Nat) : Int32 := if S g = true then nI (m * σ (24 + g) % all) else -1
def bsF (R : Nat → Int32) : Nat → Nat
  | 0 => 0
  | g + 1 => if R (bsF R g) < R (g + 1) then g + 1 else bsF R g
def gvR (R : Nat → Int32) (n : Nat) : Nat → Nat → Int32
  | 0 => R
  | i + 1 => fun g => if g = bsF (gvR R n i) (n - 1) then -1 else gvR R n i g
def gvP (P : Nat → Nat) (R : Nat → Int32) (n : Nat) : Nat → Nat → Nat
  | 0 => P
  | i + 1 => fun g => if g = bsF (gvR R n i) (n - 1) then gvP P R n i g + 1 else gvP P R n i g
def shr (σ : Nat → Nat) (m : Nat) (S : Nat → Bool) (g : Nat) : Nat :=
  if shA σ S (σ 0) = 0 then 0 else gvP (shB σ m S (shA σ S (σ 0))) (shR σ m S (shA σ S (σ 0))) (σ 0) (m - shT σ m S (shA σ S (σ 0)) (σ 0)) g
/-- hours -/
def alB (σ : Nat → Nat) (g : Nat) : Bool := decide (g < σ 0)
def prB (σ : Nat → Nat) (g : Nat) : Bool := decide (g < σ 0 ∧ σ (32 + g) ≠ 1)
def nrB (σ : Nat → Nat) (i g : Nat) : Bool := prB σ g && decide (σ (16 + g) = σ (16 + i))
def anB (σ : Nat → Nat) (i : Nat) : Nat → Bool
  | 0 => false
  | g + 1 => anB σ i g || nrB σ i g
def toB (σ : Nat → Nat) (i g : Nat) : Bool := if anB σ i (σ 0) = true then nrB σ i g else prB σ g
def hvA (σ : Nat → Nat) (w : Nat) : Nat → Nat → Nat
  | 0 => shr σ (leftOf σ w) (alB σ)
  | i + 1 => if σ (32 + i) = 1 then fun g => (if g = i then 0 else hvA σ w i g) + shr σ (hvA σ w i i) (toB σ i) g else hvA σ w i
def hvM (x : Nat → Nat) (p q h : Nat) : Nat → Nat := fun g => if g = q then (if q = p then x p - h else x q) + h else if g = p then x p - h else x g
def hvT (σ : Nat → Nat) (w : Nat) : Nat → Nat → Nat
  | 0 => hvA σ w (σ 0)
  | k + 1 => hvM (hvT σ w k) (σ (40 + k)) (σ (52 + k)) (σ (64 + k))
def hvOf (σ : Nat → Nat) (w : Nat) (tr : Bool) : Nat → Nat := hvT σ w (if tr = true then σ 4 else 0)
/-- times -/
def tmS (σ : Nat → Nat) (L : List Nat) (hv : Nat → Nat) : Nat → Nat
  | 0 => 0
  | i + 1 => tmS σ L hv i + lgA σ L i + hv (L.getD i 0)
def ngB (z : Nat) : Bool := decide (18 ≤ z % 24 ∨ z % 24 < 6)
def ngC (z : Nat) : Nat → Nat
  | 0 => 0
  | m + 1 => ngC z m + (if ngB (z + m) = true then 1 else 0)
/-- which TURN a FIELD has -/
def plS (σ : Nat → Nat) (w : Nat) : Nat → Nat → Int32
  | 0 => fun _ => -5
  | k + 1 => if σ (32 + lnA σ (zpos σ w k)) = 1 then plS σ w k else fun g => if g = lnA σ (zpos σ w k) then nI (oS σ w k).length else plS σ w k g
