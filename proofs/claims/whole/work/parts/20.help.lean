/-! ===== helpers (the rows on bits are pasted from kit/laws/BITS.to-paste) ===== -/
/-! ===== Int32 by its bits: bt x i ===== -/
def bt (x : Int32) (i : Nat) : Bool := x.toBitVec.getLsbD i
theorem b_ext {x y : Int32} (h : ∀ i, i < 32 → bt x i = bt y i) : x = y := Int32.toBitVec_inj.mp (BitVec.eq_of_getLsbD_eq (fun i hi => h i hi))
theorem b_or (x y : Int32) (i : Nat) : bt (x ||| y) i = (bt x i || bt y i) := by unfold bt; rw [Int32.toBitVec_or, BitVec.getLsbD_or]
theorem b_and (x y : Int32) (i : Nat) : bt (x &&& y) i = (bt x i && bt y i) := by unfold bt; rw [Int32.toBitVec_and, BitVec.getLsbD_and]
theorem b_xor (x y : Int32) (i : Nat) : bt (x ^^^ y) i = (bt x i ^^ bt y i) := by unfold bt; rw [Int32.toBitVec_xor, BitVec.getLsbD_xor]
theorem b_big {x : Int32} {i : Nat} (h : 32 ≤ i) : bt x i = false := BitVec.getLsbD_of_ge _ _ h
theorem b_255 (i : Nat) : bt 255 i = decide (i < 8) := by
  rcases Nat.lt_or_ge i 32 with h | h
  · exact (by decide +kernel : ∀ i, i < 32 → bt 255 i = decide (i < 8)) i h
  · rw [b_big h, decide_eq_false (by omega)]
theorem b_65535 (i : Nat) : bt 65535 i = decide (i < 16) := by
  rcases Nat.lt_or_ge i 32 with h | h
  · exact (by decide +kernel : ∀ i, i < 32 → bt 65535 i = decide (i < 16)) i h
  · rw [b_big h, decide_eq_false (by omega)]
theorem b_m1 : ∀ i, i < 32 → bt (-1) i = true := by decide +kernel
theorem b_0 (i : Nat) : bt 0 i = false := BitVec.getLsbD_zero
theorem s_l : ∀ n, n < 32 → ((nI n &&& 31).toBitVec.smod 32).toNat = n := by decide +kernel
theorem s_u : ∀ n, n < 32 → (((nI n).toUInt32 &&& Int32.toUInt32 31).toBitVec % 32).toNat = n := by decide +kernel
theorem b_shl (n : Nat) (hn : n < 32) (x : Int32) {i : Nat} (hi : i < 32) : bt (x <<< (nI n &&& 31)) i = (decide (n ≤ i) && bt x (i - n)) := by
  unfold bt
  rw [Int32.toBitVec_shiftLeft]
  show (x.toBitVec <<< ((nI n &&& 31).toBitVec.smod 32).toNat).getLsbD i = _
  rw [s_l n hn, BitVec.getLsbD_shiftLeft]
  rcases Nat.lt_or_ge i n with h | h
  · simp [h, Nat.not_le.mpr h]
  · simp [hi, h, Nat.not_lt.mpr h]
theorem b_ushr (n : Nat) (hn : n < 32) (x : Int32) (i : Nat) : bt ((x.toUInt32 >>> ((nI n).toUInt32 &&& Int32.toUInt32 31)).toInt32) i = bt x (n + i) := by
  show (x.toUInt32 >>> ((nI n).toUInt32 &&& Int32.toUInt32 31)).toBitVec.getLsbD i = x.toUInt32.toBitVec.getLsbD (n + i)
  rw [UInt32.toBitVec_shiftRight]
  show (x.toUInt32.toBitVec >>> (((nI n).toUInt32 &&& Int32.toUInt32 31).toBitVec % 32).toNat).getLsbD i = _
  rw [s_u n hn, BitVec.getLsbD_ushiftRight]
theorem b_sshr (n : Nat) (hn : n < 32) (x : Int32) {i : Nat} (hi : i < 32) : bt (x >>> (nI n &&& 31)) i = if n + i < 32 then bt x (n + i) else bt x 31 := by
  unfold bt
  rw [Int32.toBitVec_shiftRight]
  show (x.toBitVec.sshiftRight ((nI n &&& 31).toBitVec.smod 32).toNat).getLsbD i = _
  rw [s_l n hn, BitVec.getLsbD_sshiftRight, BitVec.msb_eq_getLsbD_last]
  simp [hi]
theorem b_shl8 (x : Int32) {i : Nat} (hi : i < 32) : bt (x <<< ((8 : Int32) &&& 31)) i = (decide (8 ≤ i) && bt x (i - 8)) := b_shl 8 (by omega) x hi
theorem b_shl16 (x : Int32) {i : Nat} (hi : i < 32) : bt (x <<< ((16 : Int32) &&& 31)) i = (decide (16 ≤ i) && bt x (i - 16)) := b_shl 16 (by omega) x hi
theorem b_shl24 (x : Int32) {i : Nat} (hi : i < 32) : bt (x <<< ((24 : Int32) &&& 31)) i = (decide (24 ≤ i) && bt x (i - 24)) := b_shl 24 (by omega) x hi
theorem b_sshr8 (x : Int32) {i : Nat} (hi : i < 32) : bt (x >>> ((8 : Int32) &&& 31)) i = if 8 + i < 32 then bt x (8 + i) else bt x 31 := b_sshr 8 (by omega) x hi
theorem z01 : (nI 0 = 0 ∨ nI 0 = 1) = True := by simp [nI]
theorem z11 : (nI 1 = 0 ∨ nI 1 = 1) = True := by simp [nI]
def zb (c : Prop) [Decidable c] : Int32 := if c then nI 1 else nI 0
theorem zb_ok {c : Prop} [Decidable c] : zb c = 0 ∨ zb c = 1 := by unfold zb; split <;> simp [nI]
theorem zb_okT {c : Prop} [Decidable c] : (zb c = 0 ∨ zb c = 1) = True := eq_true zb_ok
theorem zb_0 {c : Prop} [Decidable c] : (zb c = 0) = ¬ c := by unfold zb; split <;> simp_all [nI]
theorem zb_1 {c : Prop} [Decidable c] : (zb c = 1) = c := by unfold zb; split <;> simp_all [nI]
theorem zem {c : Prop} : (¬ c ∨ c) = True := eq_true ((Classical.em c).symm)
theorem zb_t {c : Prop} [Decidable c] (h : c) : zb c = nI 1 := if_pos h
theorem zb_f {c : Prop} [Decidable c] (h : ¬ c) : zb c = nI 0 := if_neg h
theorem zb_iff {c d : Prop} [Decidable c] [Decidable d] (h : c ↔ d) : zb c = zb d := by unfold zb; simp only [h]
theorem n0 : nI 0 = 0 := rfl
theorem n1 : nI 1 = 1 := rfl
theorem nI_m1 (n : Nat) : nI (n + 1) + (-1) = nI n := pk_m1 n
theorem zuA_eq {a : zA} {k : Nat} {i x : Int32} : zuA a k i x k i = x := by simp [zuA]
theorem zuA_nk {a : zA} {k k' : Nat} {i x : Int32} (h : k' ≠ k) : zuA a k i x k' = a k' := by funext q; simp [zuA, h]
theorem zuA_ni {a : zA} {k k' : Nat} {i i' x : Int32} (h : i' ≠ i) : zuA a k i x k' i' = a k' i' := by simp [zuA, h]
theorem zuF_eq {f : zF} {k i : Nat} {x : Int32} : zuF f k i x k i = x := by simp [zuF]
theorem zuF_nk {f : zF} {k k' i : Nat} {x : Int32} (h : k' ≠ k) : zuF f k i x k' = f k' := by funext q; simp [zuF, h]
theorem zuF_ni {f : zF} {k k' i i' : Nat} {x : Int32} (h : i' ≠ i) : zuF f k i x k' i' = f k' i' := by simp [zuF, h]
theorem zuJ_eq {a : zJ} {k : Nat} {i : Int32} {x : Int64} : zuJ a k i x k i = x := by simp [zuJ]
theorem zuJ_nk {a : zJ} {k k' : Nat} {i : Int32} {x : Int64} (h : k' ≠ k) : zuJ a k i x k' = a k' := by funext q; simp [zuJ, h]
theorem zuJ_ni {a : zJ} {k k' : Nat} {i i' : Int32} {x : Int64} (h : i' ≠ i) : zuJ a k i x k' i' = a k' i' := by simp [zuJ, h]
theorem nI_ne {p q : Nat} (hp : p < 2 ^ 31) (hq : q < 2 ^ 31) (h : p ≠ q) : nI p ≠ nI q := fun e => h ((nI_eq hp hq).mp e)
theorem zIx_of {kd k n : Nat} {q : Nat} (h1 : zKd k = kd) (h2 : zLn k = n) (h : q < n) : zIx kd k (nI q) := by
  refine ⟨h1, ?_⟩
  have h3 := zLn_le k
  rw [h2] at h3 ⊢
  exact nI_in h (by omega)
/-- a run of the same state n times over -/
theorem zLoop {β : Type} {g : Nat → β} {n : Nat} (h : ∀ i, i < n → g i = g (i + 1)) : g 0 = g n := by
  induction n with
  | zero => rfl
  | succ n ih => rw [ih (fun i hi => h i (by omega)), h n (by omega)]
theorem zLoopP {α β : Type} {g : α → β} {P : Nat → α → Prop} {n : Nat} (hs : ∀ i x, i < n → P i x → ∃ y, P (i + 1) y ∧ g x = g y) : ∀ x, P 0 x → ∃ y, P n y ∧ g x = g y := by
  induction n with
  | zero => exact fun x h => ⟨x, h, rfl⟩
  | succ n ih =>
    intro x h
    obtain ⟨y, h1, h2⟩ := ih (fun i x hi => hs i x (by omega)) x h
    obtain ⟨z, h3, h4⟩ := hs n y (by omega) h1
    exact ⟨z, h3, h2.trans h4⟩
theorem ix55 {q : Nat} (h : q < 8) : zIx 21 55 (nI q) := zIx_of rfl rfl h
theorem ix56 {q : Nat} (h : q < 8) : zIx 21 56 (nI q) := zIx_of rfl rfl h
theorem ix57 {q : Nat} (h : q < 8) : zIx 21 57 (nI q) := zIx_of rfl rfl h
theorem ix58 {q : Nat} (h : q < 8) : zIx 21 58 (nI q) := zIx_of rfl rfl h
theorem ix59 {q : Nat} (h : q < 8) : zIx 21 59 (nI q) := zIx_of rfl rfl h
theorem ix60 {q : Nat} (h : q < 8) : zIx 21 60 (nI q) := zIx_of rfl rfl h
theorem ix61 {q : Nat} (h : q < 8) : zIx 21 61 (nI q) := zIx_of rfl rfl h
theorem ix62 {q : Nat} (h : q < 8) : zIx 21 62 (nI q) := zIx_of rfl rfl h
theorem ix63 {q : Nat} (h : q < 8) : zIx 21 63 (nI q) := zIx_of rfl rfl h
theorem ix64 {q : Nat} (h : q < 8) : zIx 21 64 (nI q) := zIx_of rfl rfl h
theorem ix66 {q : Nat} (h : q < 100) : zIx 20 66 (nI q) := zIx_of rfl rfl h
theorem ix67 {q : Nat} (h : q < 12) : zIx 21 67 (nI q) := zIx_of rfl rfl h
theorem ix69 {q : Nat} (h : q < 12) : zIx 21 69 (nI q) := zIx_of rfl rfl h
theorem ix70 {q : Nat} (h : q < 12) : zIx 21 70 (nI q) := zIx_of rfl rfl h
theorem ix71 {q : Nat} (h : q < 12) : zIx 21 71 (nI q) := zIx_of rfl rfl h
theorem ix74 {q : Nat} (h : q < 60) : zIx 22 74 (nI q) := zIx_of rfl rfl h
theorem ix76 {q : Nat} (h : q < 60) : zIx 22 76 (nI q) := zIx_of rfl rfl h
theorem ix78 {q : Nat} (h : q < 60) : zIx 22 78 (nI q) := zIx_of rfl rfl h
theorem ix80 {q : Nat} (h : q < 60) : zIx 22 80 (nI q) := zIx_of rfl rfl h
theorem ix82 {q : Nat} (h : q < 60) : zIx 22 82 (nI q) := zIx_of rfl rfl h
theorem ix84 {q : Nat} (h : q < 60) : zIx 22 84 (nI q) := zIx_of rfl rfl h
theorem ix86 {q : Nat} (h : q < 140) : zIx 21 86 (nI q) := zIx_of rfl rfl h
theorem ix87 {q : Nat} (h : q < 140) : zIx 21 87 (nI q) := zIx_of rfl rfl h
theorem ix88 {q : Nat} (h : q < 140) : zIx 21 88 (nI q) := zIx_of rfl rfl h
theorem ix89 {q : Nat} (h : q < 8) : zIx 21 89 (nI q) := zIx_of rfl rfl h
theorem ix90 {q : Nat} (h : q < 8) : zIx 21 90 (nI q) := zIx_of rfl rfl h
theorem ix91 {q : Nat} (h : q < 8) : zIx 21 91 (nI q) := zIx_of rfl rfl h
theorem ix92 {q : Nat} (h : q < 8) : zIx 21 92 (nI q) := zIx_of rfl rfl h
theorem ix93 {q : Nat} (h : q < 8) : zIx 21 93 (nI q) := zIx_of rfl rfl h
theorem ix94 {q : Nat} (h : q < 8) : zIx 21 94 (nI q) := zIx_of rfl rfl h
theorem ix95 {q : Nat} (h : q < 8) : zIx 21 95 (nI q) := zIx_of rfl rfl h
theorem ix96 {q : Nat} (h : q < 8) : zIx 21 96 (nI q) := zIx_of rfl rfl h
theorem ix97 {q : Nat} (h : q < 8) : zIx 21 97 (nI q) := zIx_of rfl rfl h
theorem ix98 {q : Nat} (h : q < 100) : zIx 21 98 (nI q) := zIx_of rfl rfl h
theorem ix99 {q : Nat} (h : q < 12) : zIx 21 99 (nI q) := zIx_of rfl rfl h
theorem ix100 {q : Nat} (h : q < 12) : zIx 21 100 (nI q) := zIx_of rfl rfl h
theorem ix101 {q : Nat} (h : q < 12) : zIx 21 101 (nI q) := zIx_of rfl rfl h
theorem ix102 {q : Nat} (h : q < 12) : zIx 21 102 (nI q) := zIx_of rfl rfl h
theorem ix103 {q : Nat} (h : q < 8) : zIx 21 103 (nI q) := zIx_of rfl rfl h
theorem ix104 {q : Nat} (h : q < 6) : zIx 21 104 (nI q) := zIx_of rfl rfl h
theorem ix105 {q : Nat} (h : q < 6) : zIx 21 105 (nI q) := zIx_of rfl rfl h
theorem ix106 {q : Nat} (h : q < 360) : zIx 22 106 (nI q) := zIx_of rfl rfl h
theorem ixC1 {c q : Nat} (hc : isC c) (h : q < 4) : zIx 21 (c + 1) (nI q) := by rcases hc with rfl | rfl | rfl <;> exact zIx_of rfl rfl h
theorem ixC2 {c q : Nat} (hc : isC c) (h : q < 4) : zIx 21 (c + 2) (nI q) := by rcases hc with rfl | rfl | rfl <;> exact zIx_of rfl rfl h
theorem ixC3 {c q : Nat} (hc : isC c) (h : q < 8) : zIx 21 (c + 3) (nI q) := by rcases hc with rfl | rfl | rfl <;> exact zIx_of rfl rfl h
theorem ixC4 {c q : Nat} (hc : isC c) (h : q < 8) : zIx 21 (c + 4) (nI q) := by rcases hc with rfl | rfl | rfl <;> exact zIx_of rfl rfl h
theorem ixC6 {c q : Nat} (hc : isC c) (h : q < 12) : zIx 21 (c + 6) (nI q) := by rcases hc with rfl | rfl | rfl <;> exact zIx_of rfl rfl h
theorem ixC7 {c q : Nat} (hc : isC c) (h : q < 12) : zIx 21 (c + 7) (nI q) := by rcases hc with rfl | rfl | rfl <;> exact zIx_of rfl rfl h
theorem ixC8 {c q : Nat} (hc : isC c) (h : q < 12) : zIx 21 (c + 8) (nI q) := by rcases hc with rfl | rfl | rfl <;> exact zIx_of rfl rfl h
theorem ixR1 {r q : Nat} (hr : isR r) (h : q < zLn (r + 1)) : zIx 21 (r + 1) (nI q) := by rcases hr with rfl | rfl | rfl | rfl | rfl | rfl | rfl | rfl | rfl <;> exact zIx_of rfl rfl h
theorem ixR2 {r q : Nat} (hr : isR r) (h : q < zLn (r + 1)) : zIx 21 (r + 2) (nI q) := by rcases hr with rfl | rfl | rfl | rfl | rfl | rfl | rfl | rfl | rfl <;> exact zIx_of rfl rfl h
theorem ixR3 {r q : Nat} (hr : isR r) (h : q < zLn (r + 1)) : zIx 21 (r + 3) (nI q) := by rcases hr with rfl | rfl | rfl | rfl | rfl | rfl | rfl | rfl | rfl <;> exact zIx_of rfl rfl h
theorem ixP {t q : Nat} (ht : isP t) (h : q < 60) : zIx 22 (t + 1) (nI q) := by rcases ht with rfl | rfl | rfl | rfl | rfl | rfl <;> exact zIx_of rfl rfl h
