/-! ===== words for the rows of single instructions ===== -/
theorem zLn_le (k : Nat) : zLn k ≤ 360 := by
  rcases Nat.lt_or_ge k zNC with q | q
  · exact (by decide +kernel : ∀ k, k < zNC → zLn k ≤ 360) k q
  · have h1 : zLns[k]? = none := List.getElem?_eq_none q
    unfold zLn
    rw [List.getD_eq_getElem?_getD, h1]
    simp
def isC (c : Nat) : Prop := c = 2 ∨ c = 24 ∨ c = 45
def isR (r : Nat) : Prop := r = 7 ∨ r = 11 ∨ r = 15 ∨ r = 19 ∨ r = 29 ∨ r = 33 ∨ r = 37 ∨ r = 41 ∨ r = 50
def isW (w : Nat) : Prop := w = 1 ∨ w = 23
def isP (t : Nat) : Prop := t = 73 ∨ t = 75 ∨ t = 77 ∨ t = 79 ∨ t = 81 ∨ t = 83
theorem isC_kd {c : Nat} (h : isC c) : zKd c = 0 := by rcases h with rfl | rfl | rfl <;> rfl
theorem isR_kd {c : Nat} (h : isR c) : zKd c = 1 := by rcases h with rfl | rfl | rfl | rfl | rfl | rfl | rfl | rfl | rfl <;> rfl
theorem isW_kd {c : Nat} (h : isW c) : zKd c = 5 := by rcases h with rfl | rfl <;> rfl
theorem isP_kd {c : Nat} (h : isP c) : zKd c = 3 := by rcases h with rfl | rfl | rfl | rfl | rfl | rfl <;> rfl
theorem isC_r0 {c : Nat} (h : isC c) : zRf c 0 = c + 1 := by rcases h with rfl | rfl | rfl <;> rfl
theorem isC_r1 {c : Nat} (h : isC c) : zRf c 1 = c + 2 := by rcases h with rfl | rfl | rfl <;> rfl
theorem isC_r2 {c : Nat} (h : isC c) : zRf c 2 = c + 3 := by rcases h with rfl | rfl | rfl <;> rfl
theorem isC_r3 {c : Nat} (h : isC c) : zRf c 3 = c + 4 := by rcases h with rfl | rfl | rfl <;> rfl
theorem isC_r4 {c : Nat} (h : isC c) : zRf c 4 = c + 5 := by rcases h with rfl | rfl | rfl <;> rfl
theorem isC_R {c : Nat} (h : isC c) : isR (c + 5) := by rcases h with rfl | rfl | rfl <;> simp [isR]
theorem isR_r0 {c : Nat} (h : isR c) : zRf c 0 = c + 1 := by rcases h with rfl | rfl | rfl | rfl | rfl | rfl | rfl | rfl | rfl <;> rfl
theorem isR_r1 {c : Nat} (h : isR c) : zRf c 1 = c + 2 := by rcases h with rfl | rfl | rfl | rfl | rfl | rfl | rfl | rfl | rfl <;> rfl
theorem isR_r2 {c : Nat} (h : isR c) : zRf c 2 = c + 3 := by rcases h with rfl | rfl | rfl | rfl | rfl | rfl | rfl | rfl | rfl <;> rfl
theorem isW_r0 {c : Nat} (h : isW c) : zRf c 0 = c + 1 := by rcases h with rfl | rfl <;> rfl
theorem isW_r1 {c : Nat} (h : isW c) : zRf c 1 = c + 10 := by rcases h with rfl | rfl <;> rfl
theorem isW_r2 {c : Nat} (h : isW c) : zRf c 2 = c + 14 := by rcases h with rfl | rfl <;> rfl
theorem isW_r3 {c : Nat} (h : isW c) : zRf c 3 = c + 18 := by rcases h with rfl | rfl <;> rfl
theorem isP_r0 {c : Nat} (h : isP c) : zRf c 0 = c + 1 := by rcases h with rfl | rfl | rfl | rfl | rfl | rfl <;> rfl
/-- an index within an array of a kind -/
def zIx (kd k : Nat) (i : Int32) : Prop := zKd k = kd ∧ ¬ (i < 0 ∨ zLn k ≤ i.toNatClampNeg)
def zCp (kd q d : Nat) (sp dp n : Int32) : Prop := (zKd q = kd ∧ zKd d = kd) ∧ (¬ sp < 0 ∧ ¬ dp < 0 ∧ ¬ n < 0) ∧ (sp.toNatClampNeg + n.toNatClampNeg ≤ zLn q ∧ dp.toNatClampNeg + n.toNatClampNeg ≤ zLn d)
def zCall (o : Option zR) (k : Option Value → zF → zA → zJ → Option zR) : Option zR := match o with
  | some (v, f, a, j) => k v f a j
  | none => none
theorem zCall_some {v : Option Value} {f : zF} {a : zA} {j : zJ} {k : Option Value → zF → zA → zJ → Option zR} : zCall (some (v, f, a, j)) k = k v f a j := rfl
section ZRN2
variable {sc : Int32 × (Int32 → Int32)} {F : zCF} {y pc : Nat} {ls st : List Value} {f : zF} {a : zA} {j : zJ} {p len r1 r2 r3 nx : Nat} {ins : Instr} {vi : Int32} {vl : Int64} {sw : List (Int32 × Nat)}
theorem zg_ref {idx k t : Nat} {r : List Value} (hk : zKd k = r1) (ht : zRf k r2 = t) (hr : zIsR r1 r2 = true) : zIns sc F y (.getfield idx) nx r1 r2 vi vl sw ls (.ref k :: r) f a j = zGo nx ls (.ref t :: r) f a j := by
  subst ht
  show (if zKd k = r1 then _ else _) = _
  rw [if_pos hk, if_pos hr]
theorem zg_int {idx k : Nat} {r : List Value} (hk : zKd k = r1) (hr : zIsR r1 r2 = false) : zIns sc F y (.getfield idx) nx r1 r2 vi vl sw ls (.ref k :: r) f a j = zGo nx ls (.int (f k r2) :: r) f a j := by
  show (if zKd k = r1 then _ else _) = _
  rw [if_pos hk, if_neg (by rw [hr]; decide)]
theorem zi_ret {x : Int32} (h : zYz y = false) : zIns sc F y .ireturn nx r1 r2 vi vl sw ls [.int x] f a j = some (.inl (some (.int x), f, a, j)) := by
  dsimp only [zIns]
  exact if_pos (fun q => by rw [h] at q; cases q)
theorem zi_retz {x : Int32} (h : x = 0 ∨ x = 1) : zIns sc F y .ireturn nx r1 r2 vi vl sw ls [.int x] f a j = some (.inl (some (.int x), f, a, j)) := by
  dsimp only [zIns]
  exact if_pos (fun _ => h)
theorem zi_iald {i : Int32} {k : Nat} {r : List Value} (h : zIx 21 k i) : zIns sc F y .iaload nx r1 r2 vi vl sw ls (.int i :: .ref k :: r) f a j = zGo nx ls (.int (a k i) :: r) f a j := by
  dsimp only [zIns]
  exact if_pos h
theorem zi_bald {i : Int32} {k : Nat} {r : List Value} (h : zIx 20 k i) : zIns sc F y .baload nx r1 r2 vi vl sw ls (.int i :: .ref k :: r) f a j = zGo nx ls (.int (a k i) :: r) f a j := by
  dsimp only [zIns]
  exact if_pos h
theorem zi_lald {i : Int32} {k : Nat} {r : List Value} (h : zIx 22 k i) : zIns sc F y .laload nx r1 r2 vi vl sw ls (.int i :: .ref k :: r) f a j = zGo nx ls (.long (j k i) :: r) f a j := by
  dsimp only [zIns]
  exact if_pos h
theorem zi_sald {i : Int32} {r : List Value} (h : ¬ (i < 0 ∨ sc.1.toNatClampNeg ≤ i.toNatClampNeg)) : zIns sc F 0 .iaload nx r1 r2 vi vl sw ls (.int i :: .ref 999 :: r) f a j = zGo nx ls (.int (sc.2 i) :: r) f a j := by
  dsimp only [zIns]
  exact (if_neg (fun q => absurd q.1 (by decide))).trans (if_pos ⟨rfl, rfl, h⟩)
theorem zi_slen {r : List Value} : zIns sc F 0 .arraylength nx r1 r2 vi vl sw ls (.ref 999 :: r) f a j = zGo nx ls (.int sc.1 :: r) f a j := by
  dsimp only [zIns]
  exact (if_neg (fun q => absurd q.2 (by decide))).trans (if_pos ⟨rfl, rfl⟩)
theorem zi_aald {i : Int32} {k : Nat} {r : List Value} (h : (zKd k = 23 ∨ zKd k = 24) ∧ ¬ (i < 0 ∨ zLn k ≤ i.toNatClampNeg)) : zIns sc F y .aaload nx r1 r2 vi vl sw ls (.int i :: .ref k :: r) f a j = zGo nx ls (.ref (zRf k i.toNatClampNeg) :: r) f a j := by
  dsimp only [zIns]
  exact if_pos h
theorem zi_iast {i x : Int32} {k : Nat} {r : List Value} (h : zIx 21 k i) : zIns sc F y .iastore nx r1 r2 vi vl sw ls (.int x :: .int i :: .ref k :: r) f a j = zGo nx ls r f (zuA a k i x) j := by
  dsimp only [zIns]
  exact if_pos h
theorem zi_bast {i x : Int32} {k : Nat} {r : List Value} (h : zIx 20 k i) : zIns sc F y .bastore nx r1 r2 vi vl sw ls (.int x :: .int i :: .ref k :: r) f a j = zGo nx ls r f (zuA a k i x.toInt8.toInt32) j := by
  dsimp only [zIns]
  exact if_pos h
theorem zi_last {i : Int32} {x : Int64} {k : Nat} {r : List Value} (h : zIx 22 k i) : zIns sc F y .lastore nx r1 r2 vi vl sw ls (.long x :: .int i :: .ref k :: r) f a j = zGo nx ls r f a (zuJ j k i x) := by
  dsimp only [zIns]
  exact if_pos h
theorem zi_len {k : Nat} {r : List Value} (h : 20 ≤ zKd k ∧ zKd k < 25) : zIns sc F y .arraylength nx r1 r2 vi vl sw ls (.ref k :: r) f a j = zGo nx ls (.int (nI (zLn k)) :: r) f a j := by
  dsimp only [zIns]
  exact if_pos h
theorem zi_put {idx k : Nat} {x : Int32} {r : List Value} (hk : zKd k = r1) (h : zIsZ r1 r2 = false) : zIns sc F y (.putfield idx) nx r1 r2 vi vl sw ls (.int x :: .ref k :: r) f a j = zGo nx ls r (zuF f k r2 x) a j := by
  dsimp only [zIns]
  exact if_pos ⟨hk, fun q => by rw [h] at q; cases q⟩
theorem zi_putz {idx k : Nat} {x : Int32} {r : List Value} (hk : zKd k = r1) (h : x = 0 ∨ x = 1) : zIns sc F y (.putfield idx) nx r1 r2 vi vl sw ls (.int x :: .ref k :: r) f a j = zGo nx ls r (zuF f k r2 x) a j := by
  dsimp only [zIns]
  exact if_pos ⟨hk, fun _ => h⟩
theorem zi_idiv {z x : Int32} {r : List Value} (h : z ≠ 0) : zIns sc F y .idiv nx r1 r2 vi vl sw ls (.int z :: .int x :: r) f a j = zGo nx ls (.int (x / z) :: r) f a j := by
  dsimp only [zIns]
  exact if_neg h
theorem zi_irem {z x : Int32} {r : List Value} (h : z ≠ 0) : zIns sc F y .irem nx r1 r2 vi vl sw ls (.int z :: .int x :: r) f a j = zGo nx ls (.int (x - x / z * z) :: r) f a j := by
  dsimp only [zIns]
  exact if_neg h
theorem zi_ldiv {z x : Int64} {r : List Value} (h : z ≠ 0) : zIns sc F y .ldiv nx r1 r2 vi vl sw ls (.long z :: .long x :: r) f a j = zGo nx ls (.long (x / z) :: r) f a j := by
  dsimp only [zIns]
  exact if_neg h
theorem zi_lrem {z x : Int64} {r : List Value} (h : z ≠ 0) : zIns sc F y .lrem nx r1 r2 vi vl sw ls (.long z :: .long x :: r) f a j = zGo nx ls (.long (x - x / z * z) :: r) f a j := by
  dsimp only [zIns]
  exact if_neg h
theorem zcp_i {idx q d : Nat} {sp dp n : Int32} {r : List Value} (h : zCp 21 q d sp dp n) (hr : (r.map fun v => v.category).sum ≤ 8) : zIns sc F y (.invokestatic idx) nx 999 r2 vi vl sw ls (.int n :: .int dp :: .ref d :: .int sp :: .ref q :: r) f a j = zGo nx ls r f (zcA a q d sp dp n) j := by
  dsimp only [zIns]
  rw [if_pos rfl]
  exact if_pos ⟨h.1, h.2.1, h.2.2, hr⟩
theorem zcp_l {idx q d : Nat} {sp dp n : Int32} {r : List Value} (h : zCp 22 q d sp dp n) (hr : (r.map fun v => v.category).sum ≤ 8) : zIns sc F y (.invokestatic idx) nx 999 r2 vi vl sw ls (.int n :: .int dp :: .ref d :: .int sp :: .ref q :: r) f a j = zGo nx ls r f a (zcJ j q d sp dp n) := by
  dsimp only [zIns]
  rw [if_pos rfl]
  refine (if_neg (fun q => ?_)).trans (if_pos ⟨h.1, h.2.1, h.2.2, hr⟩)
  have h1 := q.1.1
  rw [h.1.1] at h1
  exact absurd h1 (by decide)
theorem rn_callV {idx k : Nat} {r : List Value} (h : zOp y pc = some (p, .invokevirtual idx, len, r1, r2, r3, vi, vl, sw)) (hn : pc + len = nx) (hd : st.drop r2 = .ref k :: r) (hk : zKd k = zYc r1) (hr : (r.map fun v => v.category).sum ≤ 8) :
    rn sc F y pc ls st f a j = zCall (F r1 (.ref k :: (st.take r2).reverse) f a j) (fun v f a j => rn sc F y nx ls (v.toList ++ r) f a j) := by
  cases hF : F r1 (.ref k :: (st.take r2).reverse) f a j with
  | none =>
    refine zRun_none ?_
    dsimp only [zStep]
    rw [h]
    dsimp only [zIns]
    rw [hd]
    dsimp only
    rw [if_pos ⟨hk, hr⟩, hF]
  | some x =>
    obtain ⟨v, f', a', j'⟩ := x
    refine rn_go h ?_
    dsimp only [zIns]
    rw [hd]
    dsimp only
    rw [if_pos ⟨hk, hr⟩, hF, hn]
theorem rn_callS {idx : Nat} (h : zOp y pc = some (p, .invokestatic idx, len, r1, r2, r3, vi, vl, sw)) (hn : pc + len = nx) (h9 : Nat.beq r1 999 = false) (hl : r2 ≤ st.length) (hr : ((st.drop r2).map fun v => v.category).sum ≤ 8) :
    rn sc F y pc ls st f a j = zCall (F r1 (st.take r2).reverse f a j) (fun v f a j => rn sc F y nx ls (v.toList ++ st.drop r2) f a j) := by
  have h9 : ¬ r1 = 999 := fun q => by subst q; cases h9
  cases hF : F r1 (st.take r2).reverse f a j with
  | none =>
    refine zRun_none ?_
    dsimp only [zStep]
    rw [h]
    dsimp only [zIns]
    rw [if_neg h9, if_pos ⟨hl, hr⟩, hF]
  | some x =>
    obtain ⟨v, f', a', j'⟩ := x
    refine rn_go h ?_
    dsimp only [zIns]
    rw [if_neg h9, if_pos ⟨hl, hr⟩, hF, hn]
end ZRN2
