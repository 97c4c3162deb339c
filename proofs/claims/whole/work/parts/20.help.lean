/-! ===== helpers (the rows on bits are pasted from kit/laws/BITS.to-paste) ===== -/
/-! ===== Int32 by its bits: bt x i ===== -/
def bt (x : Int32) (i : Nat) : Bool := x.toBitVec.getLsbD i
theorem b_ext {x y : Int32} (h : ∀ i, i < 32 → bt x i = bt y i) : x = y := Int32.toBitVec_inj.mp (BitVec.eq_of_getLsbD_eq (fun i hi => h i hi))
theorem b_or (x y : Int32) (i : Nat) : bt (x ||| y) i = (bt x i || bt y i) := by unfold bt; rw [Int32.toBitVec_or, BitVec.getLsbD_or]
theorem b_and (x y : Int32) (i : Nat) : bt (x &&& y) i = (bt x i && bt y i) := by unfold bt; rw [Int32.toBitVec_and, BitVec.getLsbD_and]
theorem b_xor (x y : Int32) (i : Nat) : bt (x ^^^ y) i = (bt x i ^^ bt y i) := by unfold bt; rw [Int32.toBitVec_xor, BitVec.getLsbD_xor]
theorem b_big {x : Int32} {i : Nat} (h : 32 ≤ i) : bt x i = false := BitVec.getLsbD_of_ge _ _ h
theorem b_255 (i : Nat) : bt 255 i = decide (i < 8) := by
  rcases Nat.lt_or_ge i 32 with h | h
  · exact (by decide +kernel : ∀ i, i < 32 → bt 255 i = decide (i < 8)) i h
  · rw [b_big h, decide_eq_false (by omega)]
theorem b_65535 (i : Nat) : bt 65535 i = decide (i < 16) := by
  rcases Nat.lt_or_ge i 32 with h | h
  · exact (by decide +kernel : ∀ i, i < 32 → bt 65535 i = decide (i < 16)) i h
  · rw [b_big h, decide_eq_false (by omega)]
theorem b_m1 : ∀ i, i < 32 → bt (-1) i = true := by decide +kernel
theorem b_0 (i : Nat) : bt 0 i = false := BitVec.getLsbD_zero
theorem s_l : ∀ n, n < 32 → ((nI n &&& 31).toBitVec.smod 32).toNat = n := by decide +kernel
theorem s_u : ∀ n, n < 32 → (((nI n).toUInt32 &&& Int32.toUInt32 31).toBitVec % 32).toNat = n := by decide +kernel
theorem b_shl (n : Nat) (hn : n < 32) (x : Int32) {i : Nat} (hi : i < 32) : bt (x <<< (nI n &&& 31)) i = (decide (n ≤ i) && bt x (i - n)) := by
  unfold bt
  rw [Int32.toBitVec_shiftLeft]
  show (x.toBitVec <<< ((nI n &&& 31).toBitVec.smod 32).toNat).getLsbD i = _
  rw [s_l n hn, BitVec.getLsbD_shiftLeft]
  rcases Nat.lt_or_ge i n with h | h
  · simp [h, Nat.not_le.mpr h]
  · simp [hi, h, Nat.not_lt.mpr h]
theorem b_ushr (n : Nat) (hn : n < 32) (x : Int32) (i : Nat) : bt ((x.toUInt32 >>> ((nI n).toUInt32 &&& Int32.toUInt32 31)).toInt32) i = bt x (n + i) := by
  show (x.toUInt32 >>> ((nI n).toUInt32 &&& Int32.toUInt32 31)).toBitVec.getLsbD i = x.toUInt32.toBitVec.getLsbD (n + i)
  rw [UInt32.toBitVec_shiftRight]
  show (x.toUInt32.toBitVec >>> (((nI n).toUInt32 &&& Int32.toUInt32 31).toBitVec % 32).toNat).getLsbD i = _
  rw [s_u n hn, BitVec.getLsbD_ushiftRight]
theorem b_sshr (n : Nat) (hn : n < 32) (x : Int32) {i : Nat} (hi : i < 32) : bt (x >>> (nI n &&& 31)) i = if n + i < 32 then bt x (n + i) else bt x 31 := by
  unfold bt
  rw [Int32.toBitVec_shiftRight]
  show (x.toBitVec.sshiftRight ((nI n &&& 31).toBitVec.smod 32).toNat).getLsbD i = _
  rw [s_l n hn, BitVec.getLsbD_sshiftRight, BitVec.msb_eq_getLsbD_last]
  simp [hi]
theorem b_shl8 (x : Int32) {i : Nat} (hi : i < 32) : bt (x <<< ((8 : Int32) &&& 31)) i = (decide (8 ≤ i) && bt x (i - 8)) := b_shl 8 (by omega) x hi
theorem b_shl16 (x : Int32) {i : Nat} (hi : i < 32) : bt (x <<< ((16 : Int32) &&& 31)) i = (decide (16 ≤ i) && bt x (i - 16)) := b_shl 16 (by omega) x hi
theorem b_shl24 (x : Int32) {i : Nat} (hi : i < 32) : bt (x <<< ((24 : Int32) &&& 31)) i = (decide (24 ≤ i) && bt x (i - 24)) := b_shl 24 (by omega) x hi
theorem b_sshr8 (x : Int32) {i : Nat} (hi : i < 32) : bt (x >>> ((8 : Int32) &&& 31)) i = if 8 + i < 32 then bt x (8 + i) else bt x 31 := b_sshr 8 (by omega) x hi
theorem z01 : (nI 0 = 0 ∨ nI 0 = 1) = True := by simp [nI]
theorem z11 : (nI 1 = 0 ∨ nI 1 = 1) = True := by simp [nI]
def zb (c : Prop) [Decidable c] : Int32 := if c then nI 1 else nI 0
theorem zb_ok {c : Prop} [Decidable c] : zb c = 0 ∨ zb c = 1 := by unfold zb; split <;> simp [nI]
theorem zb_okT {c : Prop} [Decidable c] : (zb c = 0 ∨ zb c = 1) = True := eq_true zb_ok
theorem zb_0 {c : Prop} [Decidable c] : (zb c = 0) = ¬ c := by unfold zb; split <;> simp_all [nI]
theorem zb_1 {c : Prop} [Decidable c] : (zb c = 1) = c := by unfold zb; split <;> simp_all [nI]
theorem zem {c : Prop} : (¬ c ∨ c) = True := eq_true ((Classical.em c).symm)
theorem zb_t {c : Prop} [Decidable c] (h : c) : zb c = nI 1 := if_pos h
theorem zb_f {c : Prop} [Decidable c] (h : ¬ c) : zb c = nI 0 := if_neg h
theorem zb_iff {c d : Prop} [Decidable c] [Decidable d] (h : c ↔ d) : zb c = zb d := by unfold zb; simp only [h]
theorem n0 : nI 0 = 0 := rfl
theorem n1 : nI 1 = 1 := rfl
theorem nI_m1 (n : Nat) : nI (n + 1) + (-1) = nI n := pk_m1 n
theorem zuA_eq {a : zA} {k : Nat} {i x : Int32} : zuA a k i x k i = x := by simp [zuA]
theorem zuA_nk {a : zA} {k k' : Nat} {i x : Int32} (h : k' ≠ k) : zuA a k i x k' = a k' := by funext q; simp [zuA, h]
theorem zuA_ni {a : zA} {k k' : Nat} {i i' x : Int32} (h : i' ≠ i) : zuA a k i x k' i' = a k' i' := by simp [zuA, h]
theorem zuF_eq {f : zF} {k i : Nat} {x : Int32} : zuF f k i x k i = x := by simp [zuF]
theorem zuF_nk {f : zF} {k k' i : Nat} {x : Int32} (h : k' ≠ k) : zuF f k i x k' = f k' := by funext q; simp [zuF, h]
theorem zuF_ni {f : zF} {k k' i i' : Nat} {x : Int32} (h : i' ≠ i) : zuF f k i x k' i' = f k' i' := by simp [zuF, h]
theorem zuJ_eq {a : zJ} {k : Nat} {i : Int32} {x : Int64} : zuJ a k i x k i = x := by simp [zuJ]
theorem zuJ_nk {a : zJ} {k k' : Nat} {i : Int32} {x : Int64} (h : k' ≠ k) : zuJ a k i x k' = a k' := by funext q; simp [zuJ, h]
theorem zuJ_ni {a : zJ} {k k' : Nat} {i i' : Int32} {x : Int64} (h : i' ≠ i) : zuJ a k i x k' i' = a k' i' := by simp [zuJ, h]
theorem nI_ne {p q : Nat} (hp : p < 2 ^ 31) (hq : q < 2 ^ 31) (h : p ≠ q) : nI p ≠ nI q := fun e => h ((nI_eq hp hq).mp e)
theorem zIx_of {kd k n : Nat} {q : Nat} (h1 : zKd k = kd) (h2 : zLn k = n) (h : q < n) : zIx kd k (nI q) := by
  refine ⟨h1, ?_⟩
  have h3 := zLn_le k
  rw [h2] at h3 ⊢
  exact nI_in h (by omega)
/-- a run of the same state n times over -/
theorem zLoop {β : Type} {g : Nat → β} {n : Nat} (h : ∀ i, i < n → g i = g (i + 1)) : g 0 = g n := by
  induction n with
  | zero => rfl
  | succ n ih => rw [ih (fun i hi => h i (by omega)), h n (by omega)]
theorem zLoopP {α β : Type} {g : α → β} {P : Nat → α → Prop} {n : Nat} (hs : ∀ i x, i < n → P i x → ∃ y, P (i + 1) y ∧ g x = g y) : ∀ x, P 0 x → ∃ y, P n y ∧ g x = g y := by
  induction n with
  | zero => exact fun x h => ⟨x, h, rfl⟩
  | succ n ih =>
    intro x h
    obtain ⟨y, h1, h2⟩ := ih (fun i x hi => hs i x (by omega)) x h
    obtain ⟨z, h3, h4⟩ := hs n y (by omega) h1
    exact ⟨z, h3, h2.trans h4⟩
theorem ix55 {q : Nat} (h : q < 8) : zIx 21 55 (nI q) := zIx_of rfl rfl h
theorem ix56 {q : Nat} (h : q < 8) : zIx 21 56 (nI q) := zIx_of rfl rfl h
theorem ix57 {q : Nat} (h : q < 8) : zIx 21 57 (nI q) := zIx_of rfl rfl h
theorem ix58 {q : Nat} (h : q < 8) : zIx 21 58 (nI q) := zIx_of rfl rfl h
theorem ix59 {q : Nat} (h : q < 8) : zIx 21 59 (nI q) := zIx_of rfl rfl h
theorem ix60 {q : Nat} (h : q < 8) : zIx 21 60 (nI q) := zIx_of rfl rfl h
theorem ix61 {q : Nat} (h : q < 8) : zIx 21 61 (nI q) := zIx_of rfl rfl h
theorem ix62 {q : Nat} (h : q < 8) : zIx 21 62 (nI q) := zIx_of rfl rfl h
theorem ix63 {q : Nat} (h : q < 8) : zIx 21 63 (nI q) := zIx_of rfl rfl h
theorem ix64 {q : Nat} (h : q < 8) : zIx 21 64 (nI q) := zIx_of rfl rfl h
theorem ix66 {q : Nat} (h : q < 100) : zIx 20 66 (nI q) := zIx_of rfl rfl h
theorem ix67 {q : Nat} (h : q < 12) : zIx 21 67 (nI q) := zIx_of rfl rfl h
theorem ix69 {q : Nat} (h : q < 12) : zIx 21 69 (nI q) := zIx_of rfl rfl h
theorem ix70 {q : Nat} (h : q < 12) : zIx 21 70 (nI q) := zIx_of rfl rfl h
theorem ix71 {q : Nat} (h : q < 12) : zIx 21 71 (nI q) := zIx_of rfl rfl h
theorem ix74 {q : Nat} (h : q < 60) : zIx 22 74 (nI q) := zIx_of rfl rfl h
theorem ix76 {q : Nat} (h : q < 60) : zIx 22 76 (nI q) := zIx_of rfl rfl h
theorem ix78 {q : Nat} (h : q < 60) : zIx 22 78 (nI q) := zIx_of rfl rfl h
theorem ix80 {q : Nat} (h : q < 60) : zIx 22 80 (nI q) := zIx_of rfl rfl h
theorem ix82 {q : Nat} (h : q < 60) : zIx 22 82 (nI q) := zIx_of rfl rfl h
theorem ix84 {q : Nat} (h : q < 60) : zIx 22 84 (nI q) := zIx_of rfl rfl h
theorem ix86 {q : Nat} (h : q < 140) : zIx 21 86 (nI q) := zIx_of rfl rfl h
theorem ix87 {q : Nat} (h : q < 140) : zIx 21 87 (nI q) := zIx_of rfl rfl h
theorem ix88 {q : Nat} (h : q < 140) : zIx 21 88 (nI q) := zIx_of rfl rfl h
theorem ix89 {q : Nat} (h : q < 8) : zIx 21 89 (nI q) := zIx_of rfl rfl h
theorem ix90 {q : Nat} (h : q < 8) : zIx 21 90 (nI q) := zIx_of rfl rfl h
theorem ix91 {q : Nat} (h : q < 8) : zIx 21 91 (nI q) := zIx_of rfl rfl h
theorem ix92 {q : Nat} (h : q < 8) : zIx 21 92 (nI q) := zIx_of rfl rfl h
theorem ix93 {q : Nat} (h : q < 8) : zIx 21 93 (nI q) := zIx_of rfl rfl h
theorem ix94 {q : Nat} (h : q < 8) : zIx 21 94 (nI q) := zIx_of rfl rfl h
theorem ix95 {q : Nat} (h : q < 8) : zIx 21 95 (nI q) := zIx_of rfl rfl h
theorem ix96 {q : Nat} (h : q < 8) : zIx 21 96 (nI q) := zIx_of rfl rfl h
theorem ix97 {q : Nat} (h : q < 8) : zIx 21 97 (nI q) := zIx_of rfl rfl h
theorem ix98 {q : Nat} (h : q < 100) : zIx 21 98 (nI q) := zIx_of rfl rfl h
theorem ix99 {q : Nat} (h : q < 12) : zIx 21 99 (nI q) := zIx_of rfl rfl h
theorem ix100 {q : Nat} (h : q < 12) : zIx 21 100 (nI q) := zIx_of rfl rfl h
theorem ix101 {q : Nat} (h : q < 12) : zIx 21 101 (nI q) := zIx_of rfl rfl h
theorem ix102 {q : Nat} (h : q < 12) : zIx 21 102 (nI q) := zIx_of rfl rfl h
theorem ix103 {q : Nat} (h : q < 8) : zIx 21 103 (nI q) := zIx_of rfl rfl h
theorem ix104 {q : Nat} (h : q < 6) : zIx 21 104 (nI q) := zIx_of rfl rfl h
theorem ix105 {q : Nat} (h : q < 6) : zIx 21 105 (nI q) := zIx_of rfl rfl h
theorem ix106 {q : Nat} (h : q < 360) : zIx 22 106 (nI q) := zIx_of rfl rfl h
theorem ixC1 {c q : Nat} (hc : isC c) (h : q < 4) : zIx 21 (c + 1) (nI q) := by rcases hc with rfl | rfl | rfl <;> exact zIx_of rfl rfl h
theorem ixC2 {c q : Nat} (hc : isC c) (h : q < 4) : zIx 21 (c + 2) (nI q) := by rcases hc with rfl | rfl | rfl <;> exact zIx_of rfl rfl h
theorem ixC3 {c q : Nat} (hc : isC c) (h : q < 8) : zIx 21 (c + 3) (nI q) := by rcases hc with rfl | rfl | rfl <;> exact zIx_of rfl rfl h
theorem ixC4 {c q : Nat} (hc : isC c) (h : q < 8) : zIx 21 (c + 4) (nI q) := by rcases hc with rfl | rfl | rfl <;> exact zIx_of rfl rfl h
theorem ixC6 {c q : Nat} (hc : isC c) (h : q < 12) : zIx 21 (c + 6) (nI q) := by rcases hc with rfl | rfl | rfl <;> exact zIx_of rfl rfl h
theorem ixC7 {c q : Nat} (hc : isC c) (h : q < 12) : zIx 21 (c + 7) (nI q) := by rcases hc with rfl | rfl | rfl <;> exact zIx_of rfl rfl h
theorem ixC8 {c q : Nat} (hc : isC c) (h : q < 12) : zIx 21 (c + 8) (nI q) := by rcases hc with rfl | rfl | rfl <;> exact zIx_of rfl rfl h
theorem ixR1 {r q : Nat} (hr : isR r) (h : q < zLn (r + 1)) : zIx 21 (r + 1) (nI q) := by rcases hr with rfl | rfl | rfl | rfl | rfl | rfl | rfl | rfl | rfl <;> exact zIx_of rfl rfl h
theorem ixR2 {r q : Nat} (hr : isR r) (h : q < zLn (r + 1)) : zIx 21 (r + 2) (nI q) := by rcases hr with rfl | rfl | rfl | rfl | rfl | rfl | rfl | rfl | rfl <;> exact zIx_of rfl rfl h
theorem ixR3 {r q : Nat} (hr : isR r) (h : q < zLn (r + 1)) : zIx 21 (r + 3) (nI q) := by rcases hr with rfl | rfl | rfl | rfl | rfl | rfl | rfl | rfl | rfl <;> exact zIx_of rfl rfl h
theorem ixP {t q : Nat} (ht : isP t) (h : q < 60) : zIx 22 (t + 1) (nI q) := by rcases ht with rfl | rfl | rfl | rfl | rfl | rfl <;> exact zIx_of rfl rfl h
theorem ne0_1 : ¬ nI 0 = nI 1 := by decide
theorem ne0_2 : ¬ nI 0 = nI 2 := by decide
theorem ne0_3 : ¬ nI 0 = nI 3 := by decide
theorem ne0_4 : ¬ nI 0 = nI 4 := by decide
theorem ne0_5 : ¬ nI 0 = nI 5 := by decide
theorem ne0_6 : ¬ nI 0 = nI 6 := by decide
theorem ne0_7 : ¬ nI 0 = nI 7 := by decide
theorem ne0_8 : ¬ nI 0 = nI 8 := by decide
theorem ne0_9 : ¬ nI 0 = nI 9 := by decide
theorem ne0_10 : ¬ nI 0 = nI 10 := by decide
theorem ne0_11 : ¬ nI 0 = nI 11 := by decide
theorem ne0_12 : ¬ nI 0 = nI 12 := by decide
theorem ne1_0 : ¬ nI 1 = nI 0 := by decide
theorem ne1_2 : ¬ nI 1 = nI 2 := by decide
theorem ne1_3 : ¬ nI 1 = nI 3 := by decide
theorem ne1_4 : ¬ nI 1 = nI 4 := by decide
theorem ne1_5 : ¬ nI 1 = nI 5 := by decide
theorem ne1_6 : ¬ nI 1 = nI 6 := by decide
theorem ne1_7 : ¬ nI 1 = nI 7 := by decide
theorem ne1_8 : ¬ nI 1 = nI 8 := by decide
theorem ne1_9 : ¬ nI 1 = nI 9 := by decide
theorem ne1_10 : ¬ nI 1 = nI 10 := by decide
theorem ne1_11 : ¬ nI 1 = nI 11 := by decide
theorem ne1_12 : ¬ nI 1 = nI 12 := by decide
theorem ne2_0 : ¬ nI 2 = nI 0 := by decide
theorem ne2_1 : ¬ nI 2 = nI 1 := by decide
theorem ne2_3 : ¬ nI 2 = nI 3 := by decide
theorem ne2_4 : ¬ nI 2 = nI 4 := by decide
theorem ne2_5 : ¬ nI 2 = nI 5 := by decide
theorem ne2_6 : ¬ nI 2 = nI 6 := by decide
theorem ne2_7 : ¬ nI 2 = nI 7 := by decide
theorem ne2_8 : ¬ nI 2 = nI 8 := by decide
theorem ne2_9 : ¬ nI 2 = nI 9 := by decide
theorem ne2_10 : ¬ nI 2 = nI 10 := by decide
theorem ne2_11 : ¬ nI 2 = nI 11 := by decide
theorem ne2_12 : ¬ nI 2 = nI 12 := by decide
theorem ne3_0 : ¬ nI 3 = nI 0 := by decide
theorem ne3_1 : ¬ nI 3 = nI 1 := by decide
theorem ne3_2 : ¬ nI 3 = nI 2 := by decide
theorem ne3_4 : ¬ nI 3 = nI 4 := by decide
theorem ne3_5 : ¬ nI 3 = nI 5 := by decide
theorem ne3_6 : ¬ nI 3 = nI 6 := by decide
theorem ne3_7 : ¬ nI 3 = nI 7 := by decide
theorem ne3_8 : ¬ nI 3 = nI 8 := by decide
theorem ne3_9 : ¬ nI 3 = nI 9 := by decide
theorem ne3_10 : ¬ nI 3 = nI 10 := by decide
theorem ne3_11 : ¬ nI 3 = nI 11 := by decide
theorem ne3_12 : ¬ nI 3 = nI 12 := by decide
theorem ne4_0 : ¬ nI 4 = nI 0 := by decide
theorem ne4_1 : ¬ nI 4 = nI 1 := by decide
theorem ne4_2 : ¬ nI 4 = nI 2 := by decide
theorem ne4_3 : ¬ nI 4 = nI 3 := by decide
theorem ne4_5 : ¬ nI 4 = nI 5 := by decide
theorem ne4_6 : ¬ nI 4 = nI 6 := by decide
theorem ne4_7 : ¬ nI 4 = nI 7 := by decide
theorem ne4_8 : ¬ nI 4 = nI 8 := by decide
theorem ne4_9 : ¬ nI 4 = nI 9 := by decide
theorem ne4_10 : ¬ nI 4 = nI 10 := by decide
theorem ne4_11 : ¬ nI 4 = nI 11 := by decide
theorem ne4_12 : ¬ nI 4 = nI 12 := by decide
theorem ne5_0 : ¬ nI 5 = nI 0 := by decide
theorem ne5_1 : ¬ nI 5 = nI 1 := by decide
theorem ne5_2 : ¬ nI 5 = nI 2 := by decide
theorem ne5_3 : ¬ nI 5 = nI 3 := by decide
theorem ne5_4 : ¬ nI 5 = nI 4 := by decide
theorem ne5_6 : ¬ nI 5 = nI 6 := by decide
theorem ne5_7 : ¬ nI 5 = nI 7 := by decide
theorem ne5_8 : ¬ nI 5 = nI 8 := by decide
theorem ne5_9 : ¬ nI 5 = nI 9 := by decide
theorem ne5_10 : ¬ nI 5 = nI 10 := by decide
theorem ne5_11 : ¬ nI 5 = nI 11 := by decide
theorem ne5_12 : ¬ nI 5 = nI 12 := by decide
theorem ne6_0 : ¬ nI 6 = nI 0 := by decide
theorem ne6_1 : ¬ nI 6 = nI 1 := by decide
theorem ne6_2 : ¬ nI 6 = nI 2 := by decide
theorem ne6_3 : ¬ nI 6 = nI 3 := by decide
theorem ne6_4 : ¬ nI 6 = nI 4 := by decide
theorem ne6_5 : ¬ nI 6 = nI 5 := by decide
theorem ne6_7 : ¬ nI 6 = nI 7 := by decide
theorem ne6_8 : ¬ nI 6 = nI 8 := by decide
theorem ne6_9 : ¬ nI 6 = nI 9 := by decide
theorem ne6_10 : ¬ nI 6 = nI 10 := by decide
theorem ne6_11 : ¬ nI 6 = nI 11 := by decide
theorem ne6_12 : ¬ nI 6 = nI 12 := by decide
theorem ne7_0 : ¬ nI 7 = nI 0 := by decide
theorem ne7_1 : ¬ nI 7 = nI 1 := by decide
theorem ne7_2 : ¬ nI 7 = nI 2 := by decide
theorem ne7_3 : ¬ nI 7 = nI 3 := by decide
theorem ne7_4 : ¬ nI 7 = nI 4 := by decide
theorem ne7_5 : ¬ nI 7 = nI 5 := by decide
theorem ne7_6 : ¬ nI 7 = nI 6 := by decide
theorem ne7_8 : ¬ nI 7 = nI 8 := by decide
theorem ne7_9 : ¬ nI 7 = nI 9 := by decide
theorem ne7_10 : ¬ nI 7 = nI 10 := by decide
theorem ne7_11 : ¬ nI 7 = nI 11 := by decide
theorem ne7_12 : ¬ nI 7 = nI 12 := by decide
theorem ne8_0 : ¬ nI 8 = nI 0 := by decide
theorem ne8_1 : ¬ nI 8 = nI 1 := by decide
theorem ne8_2 : ¬ nI 8 = nI 2 := by decide
theorem ne8_3 : ¬ nI 8 = nI 3 := by decide
theorem ne8_4 : ¬ nI 8 = nI 4 := by decide
theorem ne8_5 : ¬ nI 8 = nI 5 := by decide
theorem ne8_6 : ¬ nI 8 = nI 6 := by decide
theorem ne8_7 : ¬ nI 8 = nI 7 := by decide
theorem ne8_9 : ¬ nI 8 = nI 9 := by decide
theorem ne8_10 : ¬ nI 8 = nI 10 := by decide
theorem ne8_11 : ¬ nI 8 = nI 11 := by decide
theorem ne8_12 : ¬ nI 8 = nI 12 := by decide
theorem ne9_0 : ¬ nI 9 = nI 0 := by decide
theorem ne9_1 : ¬ nI 9 = nI 1 := by decide
theorem ne9_2 : ¬ nI 9 = nI 2 := by decide
theorem ne9_3 : ¬ nI 9 = nI 3 := by decide
theorem ne9_4 : ¬ nI 9 = nI 4 := by decide
theorem ne9_5 : ¬ nI 9 = nI 5 := by decide
theorem ne9_6 : ¬ nI 9 = nI 6 := by decide
theorem ne9_7 : ¬ nI 9 = nI 7 := by decide
theorem ne9_8 : ¬ nI 9 = nI 8 := by decide
theorem ne9_10 : ¬ nI 9 = nI 10 := by decide
theorem ne9_11 : ¬ nI 9 = nI 11 := by decide
theorem ne9_12 : ¬ nI 9 = nI 12 := by decide
theorem ne10_0 : ¬ nI 10 = nI 0 := by decide
theorem ne10_1 : ¬ nI 10 = nI 1 := by decide
theorem ne10_2 : ¬ nI 10 = nI 2 := by decide
theorem ne10_3 : ¬ nI 10 = nI 3 := by decide
theorem ne10_4 : ¬ nI 10 = nI 4 := by decide
theorem ne10_5 : ¬ nI 10 = nI 5 := by decide
theorem ne10_6 : ¬ nI 10 = nI 6 := by decide
theorem ne10_7 : ¬ nI 10 = nI 7 := by decide
theorem ne10_8 : ¬ nI 10 = nI 8 := by decide
theorem ne10_9 : ¬ nI 10 = nI 9 := by decide
theorem ne10_11 : ¬ nI 10 = nI 11 := by decide
theorem ne10_12 : ¬ nI 10 = nI 12 := by decide
theorem ne11_0 : ¬ nI 11 = nI 0 := by decide
theorem ne11_1 : ¬ nI 11 = nI 1 := by decide
theorem ne11_2 : ¬ nI 11 = nI 2 := by decide
theorem ne11_3 : ¬ nI 11 = nI 3 := by decide
theorem ne11_4 : ¬ nI 11 = nI 4 := by decide
theorem ne11_5 : ¬ nI 11 = nI 5 := by decide
theorem ne11_6 : ¬ nI 11 = nI 6 := by decide
theorem ne11_7 : ¬ nI 11 = nI 7 := by decide
theorem ne11_8 : ¬ nI 11 = nI 8 := by decide
theorem ne11_9 : ¬ nI 11 = nI 9 := by decide
theorem ne11_10 : ¬ nI 11 = nI 10 := by decide
theorem ne11_12 : ¬ nI 11 = nI 12 := by decide
theorem ne12_0 : ¬ nI 12 = nI 0 := by decide
theorem ne12_1 : ¬ nI 12 = nI 1 := by decide
theorem ne12_2 : ¬ nI 12 = nI 2 := by decide
theorem ne12_3 : ¬ nI 12 = nI 3 := by decide
theorem ne12_4 : ¬ nI 12 = nI 4 := by decide
theorem ne12_5 : ¬ nI 12 = nI 5 := by decide
theorem ne12_6 : ¬ nI 12 = nI 6 := by decide
theorem ne12_7 : ¬ nI 12 = nI 7 := by decide
theorem ne12_8 : ¬ nI 12 = nI 8 := by decide
theorem ne12_9 : ¬ nI 12 = nI 9 := by decide
theorem ne12_10 : ¬ nI 12 = nI 10 := by decide
theorem ne12_11 : ¬ nI 12 = nI 11 := by decide
theorem n0T : (nI 0 = (0 : Int32)) = True := eq_true rfl
theorem n1F : (nI 1 = (0 : Int32)) = False := eq_false (by decide)
theorem n11T : (nI 1 = (1 : Int32)) = True := eq_true rfl
def zup (σ : Nat → Nat) (i v : Nat) : Nat → Nat := fun k => if k = i then v else σ k
theorem zup_eq {σ : Nat → Nat} {i v : Nat} : zup σ i v i = v := if_pos rfl
theorem zup_ne {σ : Nat → Nat} {i v k : Nat} (h : k ≠ i) : zup σ i v k = σ k := if_neg h
/-- a number of a FIELD -/
abbrev zHas (v : Int32) (n : Nat) : Prop := ¬ v < 0 ∧ v < nI n
theorem zHas_of {v : Int32} {n : Nat} (hn : n < 2 ^ 31) (h : zHas v n) : ∃ g, g < n ∧ v = nI g := by
  rcases pk_ix v hn with q | q | q
  · exact absurd q h.1
  · exact absurd h.2 (Int32.not_lt.mpr q)
  · exact q
theorem zHas_nI {g n : Nat} (hn : n < 2 ^ 31) (h : g < n) : zHas (nI g) n := ⟨nI_pos (by omega), nI_lt h hn⟩
theorem has_iff {v : Int32} {n : Nat} (hn : n ≤ 1000) : (¬ v < nI 0 ∧ ¬ nI n - nI 1 < v) ↔ zHas v n := by
  have e : (nI n - nI 1).toInt = (n : Int) - 1 := pk_sub_toInt (by omega) (by omega)
  have e2 : (nI n).toInt = (n : Int) := nI_toInt (by omega)
  unfold zHas
  rw [n0, Int32.lt_iff_toInt_lt, Int32.lt_iff_toInt_lt, Int32.lt_iff_toInt_lt, e, e2]
  omega
/-- a number between two -/
abbrev zBtw (v : Int32) (lo hi : Nat) : Prop := ¬ v < nI lo ∧ ¬ nI hi < v
theorem zBtw_of {v : Int32} {lo hi : Nat} (hh : hi < 2 ^ 30) (hl : lo ≤ hi) (h : zBtw v lo hi) : ∃ q, lo ≤ q ∧ q ≤ hi ∧ v = nI q := by
  have e1 : (nI lo).toInt = (lo : Int) := nI_toInt (by omega)
  have e2 : (nI hi).toInt = (hi : Int) := nI_toInt (by omega)
  obtain ⟨h1, h2⟩ := h
  rw [Int32.lt_iff_toInt_lt, e1] at h1
  rw [Int32.lt_iff_toInt_lt, e2] at h2
  have h3 : ¬ v < 0 := by
    rw [Int32.lt_iff_toInt_lt]
    show ¬ v.toInt < 0
    omega
  obtain ⟨q, hq, rfl⟩ := nI_of h3
  rw [nI_toInt hq] at h1 h2
  exact ⟨q, by omega, by omega, rfl⟩
theorem zBtw_nI {q lo hi : Nat} (hh : hi < 2 ^ 30) (h1 : lo ≤ q) (h2 : q ≤ hi) : zBtw (nI q) lo hi := ⟨nI_nlt h1 (by omega), nI_nlt h2 (by omega)⟩
