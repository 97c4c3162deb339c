/-! ===== THE SMALL MACHINE: instructions over flat memory. Cells are numbered in the order in which the law makes them; f: int fields of objects, a: int and byte arrays, j: long arrays ===== -/
abbrev zF : Type := Nat → Nat → Int32
abbrev zA : Type := Nat → Int32 → Int32
abbrev zJ : Type := Nat → Int32 → Int64
abbrev zR : Type := Option Value × zF × zA × zJ
abbrev zS : Type := Nat × List Value × List Value × zF × zA × zJ
abbrev zCF : Type := Nat → List Value → zF → zA → zJ → Option zR
def zuF (f : zF) (k i : Nat) (x : Int32) : zF := fun k' i' => if k' = k ∧ i' = i then x else f k' i'
def zuA (a : zA) (k : Nat) (i : Int32) (x : Int32) : zA := fun k' i' => if k' = k ∧ i' = i then x else a k' i'
def zuJ (j : zJ) (k : Nat) (i : Int32) (x : Int64) : zJ := fun k' i' => if k' = k ∧ i' = i then x else j k' i'
/-- System.arraycopy: of the cell q, from sp on, to the cell d, from dp on, n of them -/
def zcA (a : zA) (q d : Nat) (sp dp n : Int32) : zA := fun k i => if k = d ∧ ¬ i < 0 ∧ dp.toNatClampNeg ≤ i.toNatClampNeg ∧ i.toNatClampNeg < dp.toNatClampNeg + n.toNatClampNeg then a q (nI (sp.toNatClampNeg + (i.toNatClampNeg - dp.toNatClampNeg))) else a k i
def zcJ (j : zJ) (q d : Nat) (sp dp n : Int32) : zJ := fun k i => if k = d ∧ ¬ i < 0 ∧ dp.toNatClampNeg ≤ i.toNatClampNeg ∧ i.toNatClampNeg < dp.toNatClampNeg + n.toNatClampNeg then j q (nI (sp.toNatClampNeg + (i.toNatClampNeg - dp.toNatClampNeg))) else j k i
def zSw : List (Int32 × Nat) → Int32 → Nat → Nat
  | [], _, d => d
  | (k, t) :: r, x, d => if x = k then t else zSw r x d
def zGo (pc : Nat) (ls st : List Value) (f : zF) (a : zA) (j : zJ) : Option (zR ⊕ zS) := some (.inr (pc, ls, st, f, a, j))
def zOp (y pc : Nat) : Option zE := (zTbs.getD y []).find? (fun e => Nat.beq e.1 pc)
/-- the reference 998 is null; where sc = (length, contents) is the law's script, cell 999 -/
def zIns (sc : Int32 × (Int32 → Int32)) (F : zCF) (y : Nat) (ins : Instr) (nx r1 r2 : Nat) (vi : Int32) (vl : Int64) (sw : List (Int32 × Nat)) (ls st : List Value) (f : zF) (a : zA) (j : zJ) : Option (zR ⊕ zS) :=
  match ins with
  | .iconst _ => zGo nx ls (.int vi :: st) f a j
  | .bipush _ => zGo nx ls (.int vi :: st) f a j
  | .sipush _ => zGo nx ls (.int vi :: st) f a j
  | .ldc_w _ => zGo nx ls (.int vi :: st) f a j
  | .lconst _ => zGo nx ls (.long vl :: st) f a j
  | .ldc2_w _ => zGo nx ls (.long vl :: st) f a j
  | .iload _ => match ls[r1]? with | some (.int x) => zGo nx ls (.int x :: st) f a j | _ => none
  | .iload_n _ => match ls[r1]? with | some (.int x) => zGo nx ls (.int x :: st) f a j | _ => none
  | .lload _ => match ls[r1]? with | some (.long x) => zGo nx ls (.long x :: st) f a j | _ => none
  | .lload_n _ => match ls[r1]? with | some (.long x) => zGo nx ls (.long x :: st) f a j | _ => none
  | .aload _ => match ls[r1]? with | some (.ref x) => zGo nx ls (.ref x :: st) f a j | _ => none
  | .aload_n _ => match ls[r1]? with | some (.ref x) => zGo nx ls (.ref x :: st) f a j | _ => none
  | .istore _ => match st with | .int x :: r => zGo nx (ls.set r1 (.int x)) r f a j | _ => none
  | .istore_n _ => match st with | .int x :: r => zGo nx (ls.set r1 (.int x)) r f a j | _ => none
  | .astore _ => match st with | .ref x :: r => zGo nx (ls.set r1 (.ref x)) r f a j | _ => none
  | .astore_n _ => match st with | .ref x :: r => zGo nx (ls.set r1 (.ref x)) r f a j | _ => none
  | .lstore _ => match st with | .long x :: r => zGo nx ((ls.set r1 (.long x)).set (r1 + 1) .null) r f a j | _ => none
  | .iinc _ _ => match ls[r1]? with | some (.int x) => zGo nx (ls.set r1 (.int (x + vi))) st f a j | _ => none
  | .iadd => match st with | .int z :: .int x :: r => zGo nx ls (.int (x + z) :: r) f a j | _ => none
  | .isub => match st with | .int z :: .int x :: r => zGo nx ls (.int (x - z) :: r) f a j | _ => none
  | .imul => match st with | .int z :: .int x :: r => zGo nx ls (.int (x * z) :: r) f a j | _ => none
  | .iand => match st with | .int z :: .int x :: r => zGo nx ls (.int (x &&& z) :: r) f a j | _ => none
  | .ior => match st with | .int z :: .int x :: r => zGo nx ls (.int (x ||| z) :: r) f a j | _ => none
  | .ixor => match st with | .int z :: .int x :: r => zGo nx ls (.int (x ^^^ z) :: r) f a j | _ => none
  | .ishl => match st with | .int z :: .int x :: r => zGo nx ls (.int (x <<< (z &&& 31)) :: r) f a j | _ => none
  | .ishr => match st with | .int z :: .int x :: r => zGo nx ls (.int (x >>> (z &&& 31)) :: r) f a j | _ => none
  | .idiv => match st with | .int z :: .int x :: r => if z = 0 then none else zGo nx ls (.int (x / z) :: r) f a j | _ => none
  | .irem => match st with | .int z :: .int x :: r => if z = 0 then none else zGo nx ls (.int (x - x / z * z) :: r) f a j | _ => none
  | .ladd => match st with | .long z :: .long x :: r => zGo nx ls (.long (x + z) :: r) f a j | _ => none
  | .land => match st with | .long z :: .long x :: r => zGo nx ls (.long (x &&& z) :: r) f a j | _ => none
  | .lor => match st with | .long z :: .long x :: r => zGo nx ls (.long (x ||| z) :: r) f a j | _ => none
  | .ldiv => match st with | .long z :: .long x :: r => if z = 0 then none else zGo nx ls (.long (x / z) :: r) f a j | _ => none
  | .lrem => match st with | .long z :: .long x :: r => if z = 0 then none else zGo nx ls (.long (x - x / z * z) :: r) f a j | _ => none
  | .lshl => match st with | .int z :: .long x :: r => zGo nx ls (.long (x <<< (z.toInt64 &&& 63)) :: r) f a j | _ => none
  | .lcmp => match st with | .long z :: .long x :: r => zGo nx ls (.int (lg_cmp x z) :: r) f a j | _ => none
  | .i2l => match st with | .int x :: r => zGo nx ls (.long x.toInt64 :: r) f a j | _ => none
  | .l2i => match st with | .long x :: r => zGo nx ls (.int x.toInt32 :: r) f a j | _ => none
  | .i2b => match st with | .int x :: r => zGo nx ls (.int x.toInt8.toInt32 :: r) f a j | _ => none
  | .i2s => match st with | .int x :: r => zGo nx ls (.int x.toInt16.toInt32 :: r) f a j | _ => none
  | .ineg => match st with | .int x :: r => zGo nx ls (.int (-x) :: r) f a j | _ => none
  | .aconst_null => zGo nx ls (.ref 998 :: st) f a j
  | .dup => match st with | v :: r => if v.category = 1 then zGo nx ls (v :: v :: r) f a j else none | _ => none
  | .dup2 => match st with | v :: w :: r => if v.category = 1 ∧ w.category = 1 then zGo nx ls (v :: w :: v :: w :: r) f a j else none | _ => none
  | .pop => match st with | v :: r => if v.category = 1 then zGo nx ls r f a j else none | _ => none
  | .ifCond c _ => match st with
    | .int x :: r => (match c with
      | .eq => zGo (if x = 0 then r1 else nx) ls r f a j
      | .ne => zGo (if x = 0 then nx else r1) ls r f a j
      | .lt => zGo (if x < 0 then r1 else nx) ls r f a j
      | .ge => zGo (if 0 ≤ x then r1 else nx) ls r f a j
      | .gt => zGo (if 0 < x then r1 else nx) ls r f a j
      | .le => zGo (if x ≤ 0 then r1 else nx) ls r f a j)
    | _ => none
  | .if_icmp c _ => match st with
    | .int z :: .int x :: r => (match c with
      | .eq => zGo (if x = z then r1 else nx) ls r f a j
      | .ne => zGo (if x = z then nx else r1) ls r f a j
      | .lt => zGo (if x < z then r1 else nx) ls r f a j
      | .ge => zGo (if z ≤ x then r1 else nx) ls r f a j
      | .gt => zGo (if z < x then r1 else nx) ls r f a j
      | .le => zGo (if x ≤ z then r1 else nx) ls r f a j)
    | _ => none
  | .ifnull _ => match st with | .ref k :: r => zGo (if k = 998 then r1 else nx) ls r f a j | _ => none
  | .ifnonnull _ => match st with | .ref k :: r => zGo (if k = 998 then nx else r1) ls r f a j | _ => none
  | .goto _ => zGo r1 ls st f a j
  | .tableswitch _ _ _ _ => match st with | .int x :: r => zGo (zSw sw x r1) ls r f a j | _ => none
  | .lookupswitch _ _ => match st with | .int x :: r => zGo (zSw sw x r1) ls r f a j | _ => none
  | .getfield _ => match st with
    | .ref k :: r => if zKd k = r1 then zGo nx ls ((if zIsR r1 r2 = true then .ref (zRf k r2) else .int (f k r2)) :: r) f a j else none
    | _ => none
  | .putfield _ => match st with
    | .int x :: .ref k :: r => if zKd k = r1 ∧ (zIsZ r1 r2 = true → x = 0 ∨ x = 1) then zGo nx ls r (zuF f k r2 x) a j else none
    | _ => none
  | .iaload => match st with
    | .int i :: .ref k :: r => if zKd k = 21 ∧ ¬ (i < 0 ∨ zLn k ≤ i.toNatClampNeg) then zGo nx ls (.int (a k i) :: r) f a j
        else if y = 0 ∧ k = 999 ∧ ¬ (i < 0 ∨ sc.1.toNatClampNeg ≤ i.toNatClampNeg) then zGo nx ls (.int (sc.2 i) :: r) f a j else none
    | _ => none
  | .baload => match st with
    | .int i :: .ref k :: r => if zKd k = 20 ∧ ¬ (i < 0 ∨ zLn k ≤ i.toNatClampNeg) then zGo nx ls (.int (a k i) :: r) f a j else none
    | _ => none
  | .laload => match st with
    | .int i :: .ref k :: r => if zKd k = 22 ∧ ¬ (i < 0 ∨ zLn k ≤ i.toNatClampNeg) then zGo nx ls (.long (j k i) :: r) f a j else none
    | _ => none
  | .aaload => match st with
    | .int i :: .ref k :: r => if (zKd k = 23 ∨ zKd k = 24) ∧ ¬ (i < 0 ∨ zLn k ≤ i.toNatClampNeg) then zGo nx ls (.ref (zRf k i.toNatClampNeg) :: r) f a j else none
    | _ => none
  | .iastore => match st with
    | .int x :: .int i :: .ref k :: r => if zKd k = 21 ∧ ¬ (i < 0 ∨ zLn k ≤ i.toNatClampNeg) then zGo nx ls r f (zuA a k i x) j else none
    | _ => none
  | .bastore => match st with
    | .int x :: .int i :: .ref k :: r => if zKd k = 20 ∧ ¬ (i < 0 ∨ zLn k ≤ i.toNatClampNeg) then zGo nx ls r f (zuA a k i x.toInt8.toInt32) j else none
    | _ => none
  | .lastore => match st with
    | .long x :: .int i :: .ref k :: r => if zKd k = 22 ∧ ¬ (i < 0 ∨ zLn k ≤ i.toNatClampNeg) then zGo nx ls r f a (zuJ j k i x) else none
    | _ => none
  | .arraylength => match st with
    | .ref k :: r => if 20 ≤ zKd k ∧ zKd k < 25 then zGo nx ls (.int (nI (zLn k)) :: r) f a j else if y = 0 ∧ k = 999 then zGo nx ls (.int sc.1 :: r) f a j else none
    | _ => none
  | .invokevirtual _ => match st.drop r2 with
    | .ref k :: r => if zKd k = zYc r1 ∧ (r.map fun v => v.category).sum ≤ 8 then
        (match F r1 (.ref k :: (st.take r2).reverse) f a j with
         | some (rv, f', a', j') => zGo nx ls (rv.toList ++ r) f' a' j'
         | none => none)
        else none
    | _ => none
  | .invokestatic _ => if r1 = 999 then
      (match st with
       | .int n :: .int dp :: .ref d :: .int sp :: .ref q :: r =>
         if (zKd q = 21 ∧ zKd d = 21) ∧ (¬ sp < 0 ∧ ¬ dp < 0 ∧ ¬ n < 0) ∧ (sp.toNatClampNeg + n.toNatClampNeg ≤ zLn q ∧ dp.toNatClampNeg + n.toNatClampNeg ≤ zLn d) ∧ (r.map fun v => v.category).sum ≤ 8 then zGo nx ls r f (zcA a q d sp dp n) j
         else if (zKd q = 22 ∧ zKd d = 22) ∧ (¬ sp < 0 ∧ ¬ dp < 0 ∧ ¬ n < 0) ∧ (sp.toNatClampNeg + n.toNatClampNeg ≤ zLn q ∧ dp.toNatClampNeg + n.toNatClampNeg ≤ zLn d) ∧ (r.map fun v => v.category).sum ≤ 8 then zGo nx ls r f a (zcJ j q d sp dp n)
         else none
       | _ => none)
      else if r2 ≤ st.length ∧ ((st.drop r2).map fun v => v.category).sum ≤ 8 then
        (match F r1 (st.take r2).reverse f a j with
         | some (rv, f', a', j') => zGo nx ls (rv.toList ++ st.drop r2) f' a' j'
         | none => none)
      else none
  | .ireturn => match st with
    | [.int x] => if zYz y = true → x = 0 ∨ x = 1 then some (.inl (some (.int x), f, a, j)) else none
    | _ => none
  | .lreturn => match st with | [.long x] => some (.inl (some (.long x), f, a, j)) | _ => none
  | .areturn => match st with | [.ref k] => some (.inl (some (.ref k), f, a, j)) | _ => none
  | .return_ => match st with | [] => some (.inl (none, f, a, j)) | _ => none
  | _ => none
def zStep (sc : Int32 × (Int32 → Int32)) (F : zCF) (y : Nat) : zS → Option (zR ⊕ zS)
  | (pc, ls, st, f, a, j) => match zOp y pc with
    | none => none
    | some (_, ins, len, r1, r2, _, vi, vl, sw) => zIns sc F y ins (pc + len) r1 r2 vi vl sw ls st f a j
def zExec (sc : Int32 × (Int32 → Int32)) (F : zCF) (y : Nat) : Nat → zS → Option zR
  | 0, _ => none
  | n + 1, S => match zStep sc F y S with
    | none => none
    | some (.inl r) => some r
    | some (.inr S') => zExec sc F y n S'
theorem zExec_mono (sc : Int32 × (Int32 → Int32)) (F : zCF) (y : Nat) : ∀ (n : Nat) (S : zS) (r : zR), zExec sc F y n S = some r → ∀ m, n ≤ m → zExec sc F y m S = some r
  | 0, S, r, h, _, _ => by simp [zExec] at h
  | n + 1, S, r, h, 0, hm => by omega
  | n + 1, S, r, h, m + 1, hm => by
    unfold zExec at h ⊢
    cases hs : zStep sc F y S with
    | none => rw [hs] at h; simp at h
    | some x =>
      rw [hs] at h
      cases x with
      | inl q => exact h
      | inr S' => exact zExec_mono sc F y n S' r h m (by omega)

theorem zRun_ex (sc : Int32 × (Int32 → Int32)) (F : zCF) (y : Nat) (S : zS) : ∃ o : Option zR, ∀ r, o = some r ↔ ∃ n, zExec sc F y n S = some r := by
  rcases Classical.em (∃ (n : Nat) (r : zR), zExec sc F y n S = some r) with ⟨n, r, h⟩ | h
  · refine ⟨some r, fun q => ⟨fun e => by cases e; exact ⟨n, h⟩, fun ⟨m, hm⟩ => ?_⟩⟩
    have h1 := zExec_mono sc F y n S r h (n + m) (by omega)
    have h2 := zExec_mono sc F y m S q hm (n + m) (by omega)
    exact h1.symm.trans h2
  · exact ⟨none, fun q => ⟨fun e => (by cases e), fun ⟨m, hm⟩ => absurd ⟨m, q, hm⟩ h⟩⟩
noncomputable def zRun (sc : Int32 × (Int32 → Int32)) (F : zCF) (y : Nat) (S : zS) : Option zR := Classical.choose (zRun_ex sc F y S)
theorem zRun_spec {sc : Int32 × (Int32 → Int32)} {F : zCF} {y : Nat} {S : zS} {r : zR} : zRun sc F y S = some r ↔ ∃ n, zExec sc F y n S = some r := Classical.choose_spec (zRun_ex sc F y S) r
theorem zRun_step {sc : Int32 × (Int32 → Int32)} {F : zCF} {y : Nat} {S S' : zS} (h : zStep sc F y S = some (.inr S')) : zRun sc F y S = zRun sc F y S' := by
  apply Option.ext
  intro r
  rw [zRun_spec, zRun_spec]
  constructor
  · rintro ⟨n, hn⟩
    cases n with
    | zero => simp [zExec] at hn
    | succ n => unfold zExec at hn; rw [h] at hn; exact ⟨n, hn⟩
  · rintro ⟨n, hn⟩
    exact ⟨n + 1, by unfold zExec; rw [h]; exact hn⟩
theorem zRun_end {sc : Int32 × (Int32 → Int32)} {F : zCF} {y : Nat} {S : zS} {r : zR} (h : zStep sc F y S = some (.inl r)) : zRun sc F y S = some r := zRun_spec.mpr ⟨1, by unfold zExec; rw [h]⟩
theorem zRun_none {sc : Int32 × (Int32 → Int32)} {F : zCF} {y : Nat} {S : zS} (h : zStep sc F y S = none) : zRun sc F y S = none := by
  cases hr : zRun sc F y S with
  | none => rfl
  | some r =>
    obtain ⟨n, hn⟩ := zRun_spec.mp hr
    cases n with
    | zero => simp [zExec] at hn
    | succ n => unfold zExec at hn; rw [h] at hn; cases hn
noncomputable def rn (sc : Int32 × (Int32 → Int32)) (F : zCF) (y pc : Nat) (ls st : List Value) (f : zF) (a : zA) (j : zJ) : Option zR := zRun sc F y (pc, ls, st, f, a, j)
/-- the locals at a method's entry -/
def zArg : List Value → List Value
  | [] => []
  | v :: r => if v.category = 2 then v :: .null :: zArg r else v :: zArg r
def zEnt (n : Nat) (vs : List Value) : List Value := zArg vs ++ List.replicate (n - (zArg vs).length) .null
/-- the arguments of a call fit the method -/
def zLgB (lg : List Nat) : Nat → List Value → Bool
  | _, [] => true
  | k, v :: r => (!(Nat.beq v.category 2) || lg.any (Nat.beq k)) && zLgB lg (k + 1) r
def zFitB (y : Nat) (vs : List Value) : Bool := Nat.ble (zArg vs).length (zMx y) && zLgB (zLg y) 0 (zArg vs)
/-- a call, with d frames to go -/
noncomputable def cf (sc : Int32 × (Int32 → Int32)) : Nat → zCF
  | 0 => fun _ _ _ _ _ => none
  | d + 1 => fun y vs f a j => if zFitB y vs = true then rn sc (cf sc d) y 0 (zEnt (zMx y) vs) [] f a j else none
section ZRN
variable {sc : Int32 × (Int32 → Int32)} {F : zCF} {y pc : Nat} {ls st : List Value} {f : zF} {a : zA} {j : zJ} {p len r1 r2 r3 : Nat} {ins : Instr} {vi : Int32} {vl : Int64} {sw : List (Int32 × Nat)}
theorem rn_go {pc' : Nat} {ls' st' : List Value} {f' : zF} {a' : zA} {j' : zJ} (h : zOp y pc = some (p, ins, len, r1, r2, r3, vi, vl, sw)) (hi : zIns sc F y ins (pc + len) r1 r2 vi vl sw ls st f a j = zGo pc' ls' st' f' a' j') : rn sc F y pc ls st f a j = rn sc F y pc' ls' st' f' a' j' := by
  refine zRun_step ?_
  dsimp only [zStep]
  rw [h]
  exact hi
theorem rn_end {r : zR} (h : zOp y pc = some (p, ins, len, r1, r2, r3, vi, vl, sw)) (hi : zIns sc F y ins (pc + len) r1 r2 vi vl sw ls st f a j = some (.inl r)) : rn sc F y pc ls st f a j = some r := by
  refine zRun_end ?_
  dsimp only [zStep]
  rw [h]
  exact hi
theorem rn_ite {c : Prop} [Decidable c] {p1 p2 : Nat} : rn sc F y (if c then p1 else p2) ls st f a j = if c then rn sc F y p1 ls st f a j else rn sc F y p2 ls st f a j := by
  split <;> rfl
end ZRN
