/-! ===== THE SMALL MACHINE IS THE MACHINE (2): a step ===== -/
def zWs (y : Nat) : List Cond := Cond.code (zY y) (zCo y) (zMx y) (zRt y) :: zTab
def zRm (d : Nat) : Room := { frames := d, cells := 0, slots := 0, locals := 37 * d }
def zPc (b bs : Nat) (D : va_G) (cs : Nat → ClassId) (vs : List Value) (f : zF) (a : zA) (j : zJ) : Array Value → State → Prop := va_Pc (vs.map (zV b bs)) (fun U => va_P D zvCl (zW b cs f a j) U.heap ∧ va_K D zvCl (zTy cs) U ∧ ∀ w ∈ zNest, va_Nw w U)
def zQc (b bs : Nat) (D : va_G) (cs : Nat → ClassId) (r : Option Value) (f : zF) (a : zA) (j : zJ) : Array Value → State → Outcome → State → Prop := fun _ st o t => (o = .returned (r.map (zV b bs)) ∧ va_P D zvCl (zW b cs f a j) t.heap) ∧ va_F (zA0 b) st t
def zMet (l : Launch) (b bs : Nat) (D : va_G) (cs : Nat → ClassId) (d y : Nat) (vs : List Value) (f : zF) (a : zA) (j : zJ) (r : zR) : Prop := Met l (zY y) (zWs y) (zRm d) (zPc b bs D cs vs f a j) (zQc b bs D cs r.1 r.2.1 r.2.2.1 r.2.2.2) 0 0 (zA0 b)
/-- where a step of the small machine is a step of the machine -/
def zCx (p : Program) (l : Launch) (R : Room) (s : State) (m : MethodId) (args : Array Value) (c : Code) (cells slots : Nat) (sc : Int32 × (Int32 → Int32)) (F : zCF) (y d b bs : Nat) (D : va_G) (cs : Nat → ClassId) (A : Nat → Prop) (H0 : Heap) : Prop :=
  p.tables.exec = Jvm.exec ∧ c.code = zCo y ∧ c.maxLocals = zMx y ∧ s.vm.findClass (zY y).cls = some m.cls ∧ (∀ w ∈ zTab, w.before args s = true) ∧ va_K D zvCl (zTy cs) s ∧ (∀ w ∈ zNest, va_Nw w s) ∧
  (∀ (y' : Nat) (vs : List Value) (f : zF) (a : zA) (j : zJ) (r : zR), F y' vs f a j = some r → 1 ≤ y' → y' < 184 → zMet l b bs D cs d y' vs f a j r) ∧
  (d + 1 ≤ R.frames ∧ 37 * d + 37 ≤ R.locals ∧ cells ≤ R.cells ∧ slots ≤ R.slots) ∧ (∀ q, zA0 b q → A q) ∧
  (y = 0 → bs < H0.size ∧ ¬ A bs ∧ va_X bs sc.1.toNatClampNeg (fun i => sc.2 (nI i)) s H0 ∧ nI sc.1.toNatClampNeg = sc.1)
theorem zYok_use {y : Nat} (h : zYok y = true) : Cond.code (zY y) (zCo y) (zMx y) (zRt y) ∈ zTab ∧ Cond.initialized (zY y).cls ∈ zTab ∧ ((zY y).cls ≠ "java/lang/invoke/MethodHandle" ∧ (zY y).cls ≠ "java/lang/invoke/VarHandle") ∧ (parseMethodDescriptor (zY y).desc).map (fun d => d.parameters.length) = some (zNp y) ∧ zMx y ≤ 18 ∧ plainFor (zY y) = true ∧
    (zSt y = true → Cond.static (zY y) ∈ zTab) ∧ (zSt y = false → Cond.instanceMethod (zY y) ∈ zTab ∧ Cond.selects (zY y).cls (zY y) (zY y) ∈ zTab ∧ (zC (zYc y)).1 = (zY y).cls ∧ zYc y < 8) := by
  unfold zYok at h
  split at h
  rename_i p1 p2 p3 p4 hp
  simp only [Bool.and_eq_true, decide_eq_true_eq] at h
  obtain ⟨h1, h2, h3, h4, h5, h6, h7, h8⟩ := h
  refine ⟨zTab_of h1 rfl, zTab_of h2 rfl, ⟨h3, h4⟩, h5, h6, h7, fun q => ?_, fun q => ?_⟩
  · rw [if_pos q] at h8
    exact zTab_of (of_decide_eq_true h8) rfl
  · rw [if_neg (by rw [q]; decide)] at h8
    simp only [Bool.and_eq_true, decide_eq_true_eq] at h8
    exact ⟨zTab_of h8.1 rfl, zTab_of h8.2.1 rfl, h8.2.2.1, h8.2.2.2⟩
theorem zGood {y : Nat} (h : zYok y = true) : GoodIn zTab (zWs y) := by
  intro w hw
  rcases List.mem_cons.mp hw with rfl | hw
  · exact ⟨(zYok_use h).1, zTab_good (zYok_use h).1⟩
  · exact ⟨hw, zTab_good hw⟩
theorem zvCl_at {ci : Nat} (h : ci < 8) : zvCl[ci]? = some ((zC ci).1, (zC ci).2.1, (zC ci).2.2) := by
  match ci, h with
  | 0, _ => rfl
  | 1, _ => rfl
  | 2, _ => rfl
  | 3, _ => rfl
  | 4, _ => rfl
  | 5, _ => rfl
  | 6, _ => rfl
  | 7, _ => rfl
  | n + 8, h => omega
theorem zin_all {ci : Nat} (h : ci < 8) : ∀ w ∈ u_ws (zC ci).1 (zC ci).2.1 (zC ci).2.2, w ∈ zTab := by
  match ci, h with
  | 0, _ => exact zin_0
  | 1, _ => exact zin_1
  | 2, _ => exact zin_2
  | 3, _ => exact zin_3
  | 4, _ => exact zin_4
  | 5, _ => exact zin_5
  | 6, _ => exact zin_6
  | 7, _ => exact zin_7
  | n + 8, h => omega
theorem zty_all {ci : Nat} (h : ci < 8) : ∃ ty0 : Nat → FieldType, ∀ k, k < (zC ci).2.2 → parseFieldDescriptor ((zC ci).2.1 k).2.2.1 = some (ty0 k) := by
  match ci, h with
  | 0, _ => exact ⟨_, tyX0_ok⟩
  | 1, _ => exact ⟨_, tyX1_ok⟩
  | 2, _ => exact ⟨_, tyX2_ok⟩
  | 3, _ => exact ⟨_, tyX3_ok⟩
  | 4, _ => exact ⟨_, tyX4_ok⟩
  | 5, _ => exact ⟨_, tyX5_ok⟩
  | 6, _ => exact ⟨_, tyX6_ok⟩
  | 7, _ => exact ⟨_, tyX7_ok⟩
  | n + 8, h => omega
theorem znm_all {ci : Nat} (h : ci < 8) : ∀ a, a < (zC ci).2.2 → ∀ b, b < (zC ci).2.2 → a ≠ b → ((zC ci).2.1 a).2.1 ≠ ((zC ci).2.1 b).2.1 := by
  match ci, h with
  | 0, _ => exact nmX0
  | 1, _ => exact nmX1
  | 2, _ => exact nmX2
  | 3, _ => exact nmX3
  | 4, _ => exact nmX4
  | 5, _ => exact nmX5
  | 6, _ => exact nmX6
  | 7, _ => exact nmX7
  | n + 8, h => omega
theorem zNest_warm {s U : State} (hW : s.WarmedH U.vm) (h : ∀ w ∈ zNest, va_Nw w s) : ∀ w ∈ zNest, va_Nw w U := by
  intro w hw
  have h1 := h w hw
  have h2 := (List.mem_filter.mp hw).2
  cases w <;> first | exact va_Nw.warmM hW h1 | cases h2
theorem zNest_same {u U : State} {w : Cond} (hw : w ∈ zNest) (h1 : va_Nw w u) (h : u.vm = U.vm := by rfl) : va_Nw w U := by
  have h2 := (List.mem_filter.mp hw).2
  cases w <;> first | exact va_Nw.same rfl h h1 | cases h2
theorem zPc_blind {b bs : Nat} {D : va_G} {cs : Nat → ClassId} {vs : List Value} {f : zF} {a : zA} {j : zJ} : FrameBlind (zPc b bs D cs vs f a j) := by
  intro ar U g mk q
  obtain ⟨q0, qP, qK, qN⟩ := q
  exact ⟨q0, qP, va_K.moved (u := U) (U := U.calling g mk ar) (Vm.Alike.refl U.vm) qK, fun w hw => zNest_same hw (qN w hw)⟩
theorem zSw_out {sw : List (Int32 × Nat)} {x : Int32} {d : Nat} (h : ∀ q ∈ sw, x ≠ q.1) : zSw sw x d = d := by
  induction sw with
  | nil => rfl
  | cons q r ih =>
    obtain ⟨k, t⟩ := q
    unfold zSw
    rw [if_neg (h (k, t) List.mem_cons_self)]
    exact ih (fun q hq => h q (List.mem_cons_of_mem _ hq))
theorem zSw_look {x : Int32} {d pc : Nat} {df : Int} (hd : (pc : Int) + df = (d : Int)) : ∀ (sw : List (Int32 × Nat)) (ps : List (Int × Int)), sw.map (fun q => (q.1.toInt, (q.2 : Int))) = ps.map (fun q => (q.1, (pc : Int) + q.2)) → (pc : Int) + Op.lookupswitch.offset ps df x.toInt = (zSw sw x d : Int)
  | [], [], _ => by rw [show Op.lookupswitch.offset [] df x.toInt = df from rfl]; exact hd
  | [], _ :: _, h => by simp at h
  | _ :: _, [], h => by simp at h
  | (k, t) :: r, (a, o) :: q, h => by
    simp only [List.map_cons, List.cons.injEq, Prod.mk.injEq] at h
    obtain ⟨⟨h1, h2⟩, h3⟩ := h
    have ih := zSw_look (x := x) hd r q h3
    unfold zSw
    by_cases hx : x = k
    · rw [if_pos hx, Op.lookupswitch.offset_cons, if_pos (by rw [← h1, hx])]
      exact h2.symm
    · rw [if_neg hx, lv_osw hx h1]
      exact ih

section ZCALL
variable {p : Program} {l : Launch} {e : Env} {R : Room} {s : State} {m : MethodId} {args : Array Value} {below : List Frame} {meth : Method} {c : Code} {H : Heap} {locs : List Loc} {cells slots : Nat} {Q : State → Prop}
variable {b bs d : Nat} {D : va_G} {cs : Nat → ClassId} {A : Nat → Prop} {H0 : Heap}
theorem z_call {pc : Nat} {lsA : Array Slot} {st0 rest : List Value} {aa : Array Value} {r : Option Value} {f' : zF} {a' : zA} {j' : zJ} (hr : va_Run p l e R s m args below meth c H locs cells slots 0 0 (F0 m pc lsA st0) rest (zQc b bs D cs r f' a' j' aa) (zA0 b)) (hS : va_S A H0 H locs) (hA : ∀ q, zA0 b q → A q)
    (kk : ∀ (H1 : Heap) (locs1 : List Loc), va_P D zvCl (zW b cs f' a' j') H1 → va_S A H0 H1 locs1 → W p l e R s m args below meth c H1 locs1 cells slots Q (F0 m (pc + 3) lsA ((r.map (zV b bs)).toList ++ rest))) : W p l e R s m args below meth c H locs cells slots Q (F0 m pc lsA st0) := by
  intro T hT X
  obtain ⟨v, st₀, t, T', L, h0, X', hL, e1, e2, ⟨⟨hv, hp⟩, hz, hk⟩, st⟩ := hr T hT X
  cases hv
  rw [h0] at hz hk
  obtain ⟨t2, a1, b1⟩ := kk T'.heap (locs ++ L) (by rw [e1]; exact hp)
    ⟨Nat.le_trans hS.1 (by rw [e1]; exact hz), fun q h1 h2 => by rw [e1, hk q (Nat.lt_of_lt_of_le h1 hS.1) (fun z => h2 (hA q z))]; exact hS.2.1 q h1 h2, fun q hq => by
      rcases List.mem_append.mp hq with h | h
      · exact hS.2.2 q h
      · exact hA _ (hL q h)⟩ T' rfl X'
  exact ⟨t2, st t2 a1, b1⟩
end ZCALL

section ZNUL
variable {p : Program} {l : Launch} {e : Env} {R : Room} {s : State} {m : MethodId} {args : Array Value} {below : List Frame} {meth : Method} {c : Code} {H : Heap} {locs : List Loc} {cells slots : Nat} {Q : State → Prop}
variable {cc : ByteArray} {pc : Nat} {ls : Array Slot} {rest : List Value}
theorem zn_aload_n (hexec : p.tables.exec = Jvm.exec) (hb : c.code = cc) {k : Fin 4} {i : Nat} (hdg : decode cc pc = .ok (.aload_n k, 1)) (hi : (k : Nat) = i) (hl : ls[i]? = some (.val .null))
    (k : W p l e R s m args below meth c H locs cells slots Q (F0 m (pc + 1) ls (.null :: rest))) : W p l e R s m args below meth c H locs cells slots Q (F0 m pc ls (rest)) := by
  subst hi
  intro T hT X
  obtain ⟨t, a, b⟩ := k T hT X
  refine ⟨t, ?_, b⟩
  jvm_step X.here [X.here.top, hexec, hb, hdg, hl, Value.isRef]
  exact a
theorem zn_aload (hexec : p.tables.exec = Jvm.exec) (hb : c.code = cc) {i : Nat} (hdg : decode cc pc = .ok (.aload i, 2)) (hl : ls[i]? = some (.val .null))
    (k : W p l e R s m args below meth c H locs cells slots Q (F0 m (pc + 2) ls (.null :: rest))) : W p l e R s m args below meth c H locs cells slots Q (F0 m pc ls (rest)) := by
  intro T hT X
  obtain ⟨t, a, b⟩ := k T hT X
  refine ⟨t, ?_, b⟩
  jvm_step X.here [X.here.top, hexec, hb, hdg, hl, Value.isRef]
  exact a
theorem zn_astore_n (hexec : p.tables.exec = Jvm.exec) (hb : c.code = cc) {k : Fin 4} {i nL : Nat} {lv lv' : List (Nat × Value)} (hdg : decode cc pc = .ok (.astore_n k, 1)) (hi : (k : Nat) = i) (h : lv_has ls nL lv) (hn : i < nL) (hl : (i, Value.null) :: lv.filter (fun q => !(q.1 == i) && !(q.1 + 1 == i && q.2.category == 2)) = lv')
    (kk : ∀ ls' : Array Slot, lv_has ls' nL lv' → W p l e R s m args below meth c H locs cells slots Q (F0 m (pc + 1) ls' rest)) : W p l e R s m args below meth c H locs cells slots Q (F0 m pc ls (.null :: rest)) := by
  subst hi
  obtain ⟨ls', e', h'⟩ := lv_store1 (v := .null) h hn rfl
  intro T hT X
  obtain ⟨t, a, b⟩ := kk ls' (hl ▸ h') T hT X
  refine ⟨t, ?_, b⟩
  jvm_step X.here [X.here.top, ↓top_set X.here.top, hexec, hb, hdg, e', Value.isRef]
  exact a
theorem zn_astore (hexec : p.tables.exec = Jvm.exec) (hb : c.code = cc) {i nL : Nat} {lv lv' : List (Nat × Value)} (hdg : decode cc pc = .ok (.astore i, 2)) (h : lv_has ls nL lv) (hn : i < nL) (hl : (i, Value.null) :: lv.filter (fun q => !(q.1 == i) && !(q.1 + 1 == i && q.2.category == 2)) = lv')
    (kk : ∀ ls' : Array Slot, lv_has ls' nL lv' → W p l e R s m args below meth c H locs cells slots Q (F0 m (pc + 2) ls' rest)) : W p l e R s m args below meth c H locs cells slots Q (F0 m pc ls (.null :: rest)) := by
  obtain ⟨ls', e', h'⟩ := lv_store1 (v := .null) h hn rfl
  intro T hT X
  obtain ⟨t, a, b⟩ := kk ls' (hl ▸ h') T hT X
  refine ⟨t, ?_, b⟩
  jvm_step X.here [X.here.top, ↓top_set X.here.top, hexec, hb, hdg, e', Value.isRef]
  exact a
end ZNUL

theorem zRf_lt {k r1 r2 : Nat} (hk : k < zNC) (h : zKd k = r1) (hr : zIsR r1 r2 = true) (h2 : r2 < (zC r1).2.2) : zRf k r2 < zNC := by
  subst h
  exact (by decide +kernel : ∀ k, k < zNC → ∀ i, i < (zC (zKd k)).2.2 → zIsR (zKd k) i = true → zRf k i < zNC) k hk r2 h2 hr
theorem zRf_lt2 {k i : Nat} (hk : k < zNC) (h : zKd k = 23 ∨ zKd k = 24) (hi : i < zLn k) : zRf k i < zNC := by
  exact (by decide +kernel : ∀ k, k < zNC → (zKd k = 23 ∨ zKd k = 24) → ∀ i, i < zLn k → zRf k i < zNC) k hk h i hi
theorem zcp_nat : Cond.native arraycopyName ∈ zTab := zTab_of (i := 467) (by decide +kernel) rfl
theorem zcp_stat : Cond.static arraycopyName ∈ zTab := zTab_of (i := 466) (by decide +kernel) rfl
theorem zcp_ini : Cond.initialized "java/lang/System" ∈ zTab := zTab_of (i := 62) (by decide +kernel) rfl

set_option maxHeartbeats 4000000 in
set_option maxRecDepth 100000 in
theorem zIns_ok {p : Program} {l : Launch} {e : Env} {R : Room} {s : State} {m : MethodId} {args : Array Value} {below : List Frame} {meth : Method} {c : Code} {H : Heap} {locs : List Loc} {cells slots : Nat} {Q : State → Prop} {sc : Int32 × (Int32 → Int32)} {F : zCF} {y d b bs : Nat} {D : va_G} {cs : Nat → ClassId} {A : Nat → Prop} {H0 : Heap} (C : zCx p l R s m args c cells slots sc F y d b bs D cs A H0) (hY : ∀ q, 1 ≤ q → q < 184 → zYok q = true)
    {ins : Instr} {pc len r1 r2 r3 : Nat} {vi : Int32} {vl : Int64} {sw : List (Int32 × Nat)} (hdec : decode (zCo y) pc = .ok (ins, len)) (hok : zOkI y ins pc len r1 r2 r3 vi vl sw = true) {ls st : List Value} {f : zF} {a : zA} {j : zJ} {lsA : Array Slot}
    (hP : va_P D zvCl (zW b cs f a j) H) (hS : va_S A H0 H locs) (hl : zLoc b bs y lsA ls) {pc' : Nat} {ls' st' : List Value} {f' : zF} {a' : zA} {j' : zJ} (hi : zIns sc F y ins (pc + len) r1 r2 vi vl sw ls st f a j = some (.inr (pc', ls', st', f', a', j')))
    (kk : ∀ (H1 : Heap) (locs1 : List Loc) (lsA1 : Array Slot), va_P D zvCl (zW b cs f' a' j') H1 → va_S A H0 H1 locs1 → zLoc b bs y lsA1 ls' → W p l e R s m args below meth c H1 locs1 cells slots Q (F0 m pc' lsA1 (st'.map (zV b bs)))) : W p l e R s m args below meth c H locs cells slots Q (F0 m pc lsA (st.map (zV b bs))) := by
  obtain ⟨hx, hb, hml, hown, hts, hK, hN, hF, ⟨hRf, hRl, hRc, hRs⟩, hA, hsc⟩ := C
  have hD : va_D A (zW b cs f a j) := zW_D hA
  have h0 := hl.1.2.2
  cases ins with
  | iconst n =>
    dsimp only [zIns] at hi
    simp only [zGo, Option.some.injEq, Sum.inr.injEq, Prod.mk.injEq] at hi
    obtain ⟨rfl, rfl, rfl, rfl, rfl, rfl⟩ := hi
    simp only [zOkI, Bool.and_eq_true, decide_eq_true_eq, Nat.beq_eq] at hok
    obtain ⟨rfl, hv⟩ := hok
    exact lv_iconst hx hb hdec hv (kk H locs lsA hP hS hl)
  | bipush n =>
    dsimp only [zIns] at hi
    simp only [zGo, Option.some.injEq, Sum.inr.injEq, Prod.mk.injEq] at hi
    obtain ⟨rfl, rfl, rfl, rfl, rfl, rfl⟩ := hi
    simp only [zOkI, Bool.and_eq_true, decide_eq_true_eq, Nat.beq_eq] at hok
    obtain ⟨rfl, hv⟩ := hok
    exact lv_bipush hx hb hdec hv (kk H locs lsA hP hS hl)
  | sipush n =>
    dsimp only [zIns] at hi
    simp only [zGo, Option.some.injEq, Sum.inr.injEq, Prod.mk.injEq] at hi
    obtain ⟨rfl, rfl, rfl, rfl, rfl, rfl⟩ := hi
    simp only [zOkI, Bool.and_eq_true, decide_eq_true_eq, Nat.beq_eq] at hok
    obtain ⟨rfl, hv⟩ := hok
    exact lv_sipush hx hb hdec hv (kk H locs lsA hP hS hl)
  | ldc_w n =>
    dsimp only [zIns] at hi
    simp only [zGo, Option.some.injEq, Sum.inr.injEq, Prod.mk.injEq] at hi
    obtain ⟨rfl, rfl, rfl, rfl, rfl, rfl⟩ := hi
    simp only [zOkI, Bool.and_eq_true, decide_eq_true_eq, Nat.beq_eq] at hok
    obtain ⟨rfl, hv⟩ := hok
    exact lv_ldcw hx hb hown (hts _ (zTab_of hv rfl)) hdec (kk H locs lsA hP hS hl)
  | lconst n =>
    dsimp only [zIns] at hi
    simp only [zGo, Option.some.injEq, Sum.inr.injEq, Prod.mk.injEq] at hi
    obtain ⟨rfl, rfl, rfl, rfl, rfl, rfl⟩ := hi
    simp only [zOkI, Bool.and_eq_true, decide_eq_true_eq, Nat.beq_eq] at hok
    obtain ⟨rfl, hv⟩ := hok
    exact lv_lconst hx hb hdec hv (kk H locs lsA hP hS hl)
  | ldc2_w n =>
    dsimp only [zIns] at hi
    simp only [zGo, Option.some.injEq, Sum.inr.injEq, Prod.mk.injEq] at hi
    obtain ⟨rfl, rfl, rfl, rfl, rfl, rfl⟩ := hi
    simp only [zOkI, Bool.and_eq_true, decide_eq_true_eq, Nat.beq_eq] at hok
    obtain ⟨rfl, hv⟩ := hok
    exact lv_ldc2 hx hb hown (hts _ (zTab_of hv rfl)) hdec (kk H locs lsA hP hS hl)
  | iload i =>
    dsimp only [zIns] at hi
    split at hi
    · rename_i heq
      simp only [zGo, Option.some.injEq, Sum.inr.injEq, Prod.mk.injEq] at hi
      obtain ⟨rfl, rfl, rfl, rfl, rfl, rfl⟩ := hi
      simp only [zOkI, Bool.and_eq_true, decide_eq_true_eq, Nat.beq_eq] at hok
      obtain ⟨rfl, rfl⟩ := hok
      exact lv_iload hx hb hdec (h0 _ _ heq (fun q => by cases q)) (kk H locs lsA hP hS hl)
    · cases hi
  | iload_n i =>
    dsimp only [zIns] at hi
    split at hi
    · rename_i heq
      simp only [zGo, Option.some.injEq, Sum.inr.injEq, Prod.mk.injEq] at hi
      obtain ⟨rfl, rfl, rfl, rfl, rfl, rfl⟩ := hi
      simp only [zOkI, Bool.and_eq_true, decide_eq_true_eq, Nat.beq_eq] at hok
      obtain ⟨rfl, hv⟩ := hok
      exact lv_iload_n hx hb hdec hv (h0 _ _ heq (fun q => by cases q)) (kk H locs lsA hP hS hl)
    · cases hi
  | lload i =>
    dsimp only [zIns] at hi
    split at hi
    · rename_i heq
      simp only [zGo, Option.some.injEq, Sum.inr.injEq, Prod.mk.injEq] at hi
      obtain ⟨rfl, rfl, rfl, rfl, rfl, rfl⟩ := hi
      simp only [zOkI, Bool.and_eq_true, decide_eq_true_eq, Nat.beq_eq] at hok
      obtain ⟨rfl, rfl⟩ := hok
      exact lv_lload hx hb hdec (h0 _ _ heq (fun q => by cases q)) (kk H locs lsA hP hS hl)
    · cases hi
  | lload_n i =>
    dsimp only [zIns] at hi
    split at hi
    · rename_i heq
      simp only [zGo, Option.some.injEq, Sum.inr.injEq, Prod.mk.injEq] at hi
      obtain ⟨rfl, rfl, rfl, rfl, rfl, rfl⟩ := hi
      simp only [zOkI, Bool.and_eq_true, decide_eq_true_eq, Nat.beq_eq] at hok
      obtain ⟨rfl, hv⟩ := hok
      exact lv_lload_n hx hb hdec hv (h0 _ _ heq (fun q => by cases q)) (kk H locs lsA hP hS hl)
    · cases hi
  | aload i =>
    dsimp only [zIns] at hi
    split at hi
    · rename_i x heq
      simp only [zGo, Option.some.injEq, Sum.inr.injEq, Prod.mk.injEq] at hi
      obtain ⟨rfl, rfl, rfl, rfl, rfl, rfl⟩ := hi
      simp only [zOkI, Bool.and_eq_true, decide_eq_true_eq, Nat.beq_eq] at hok
      obtain ⟨rfl, rfl⟩ := hok
      have h9 := h0 _ _ heq (fun q => by cases q)
      have kk9 := kk H locs lsA hP hS hl
      rw [List.map_cons] at kk9
      rcases zV_ref b bs x with e9 | ⟨x9, e9⟩
      · rw [e9] at h9 kk9
        exact zn_aload hx hb hdec h9 kk9
      · rw [e9] at h9 kk9
        exact lv_aload hx hb hdec h9 kk9
    · cases hi
  | aload_n i =>
    dsimp only [zIns] at hi
    split at hi
    · rename_i x heq
      simp only [zGo, Option.some.injEq, Sum.inr.injEq, Prod.mk.injEq] at hi
      obtain ⟨rfl, rfl, rfl, rfl, rfl, rfl⟩ := hi
      simp only [zOkI, Bool.and_eq_true, decide_eq_true_eq, Nat.beq_eq] at hok
      obtain ⟨rfl, hv⟩ := hok
      have h9 := h0 _ _ heq (fun q => by cases q)
      have kk9 := kk H locs lsA hP hS hl
      rw [List.map_cons] at kk9
      rcases zV_ref b bs x with e9 | ⟨x9, e9⟩
      · rw [e9] at h9 kk9
        exact zn_aload_n hx hb hdec hv h9 kk9
      · rw [e9] at h9 kk9
        exact lv_aload_n hx hb hdec hv h9 kk9
    · cases hi
  | istore i =>
    dsimp only [zIns] at hi
    split at hi
    · simp only [zGo, Option.some.injEq, Sum.inr.injEq, Prod.mk.injEq] at hi
      obtain ⟨rfl, rfl, rfl, rfl, rfl, rfl⟩ := hi
      simp only [zOkI, Bool.and_eq_true, decide_eq_true_eq, Nat.beq_eq] at hok
      obtain ⟨rfl, rfl, h1, h2⟩ := hok
      exact lv_istore hx hb hdec (zLoc_has hl) h1 rfl (fun lsB hB => kk H locs lsB hP hS (zLoc_set1 hl h1 h2 rfl rfl hB))
    · cases hi
  | istore_n i =>
    dsimp only [zIns] at hi
    split at hi
    · simp only [zGo, Option.some.injEq, Sum.inr.injEq, Prod.mk.injEq] at hi
      obtain ⟨rfl, rfl, rfl, rfl, rfl, rfl⟩ := hi
      simp only [zOkI, Bool.and_eq_true, decide_eq_true_eq, Nat.beq_eq] at hok
      obtain ⟨rfl, hv, h1, h2⟩ := hok
      exact lv_istore_n hx hb hdec hv (zLoc_has hl) h1 rfl (fun lsB hB => kk H locs lsB hP hS (zLoc_set1 hl h1 h2 rfl rfl hB))
    · cases hi
  | astore i =>
    dsimp only [zIns] at hi
    split at hi
    · rename_i x r
      simp only [zGo, Option.some.injEq, Sum.inr.injEq, Prod.mk.injEq] at hi
      obtain ⟨rfl, rfl, rfl, rfl, rfl, rfl⟩ := hi
      simp only [zOkI, Bool.and_eq_true, decide_eq_true_eq, Nat.beq_eq] at hok
      obtain ⟨rfl, rfl, h1, h2⟩ := hok
      rw [List.map_cons]
      rcases zV_ref b bs x with e9 | ⟨x9, e9⟩
      · rw [e9]
        exact zn_astore hx hb hdec (zLoc_has hl) h1 rfl (fun lsB hB => kk H locs lsB hP hS (zLoc_set1 hl h1 h2 rfl e9 hB))
      · rw [e9]
        exact lv_astore hx hb hdec (zLoc_has hl) h1 rfl (fun lsB hB => kk H locs lsB hP hS (zLoc_set1 hl h1 h2 rfl e9 hB))
    · cases hi
  | astore_n i =>
    dsimp only [zIns] at hi
    split at hi
    · rename_i x r
      simp only [zGo, Option.some.injEq, Sum.inr.injEq, Prod.mk.injEq] at hi
      obtain ⟨rfl, rfl, rfl, rfl, rfl, rfl⟩ := hi
      simp only [zOkI, Bool.and_eq_true, decide_eq_true_eq, Nat.beq_eq] at hok
      obtain ⟨rfl, hv, h1, h2⟩ := hok
      rw [List.map_cons]
      rcases zV_ref b bs x with e9 | ⟨x9, e9⟩
      · rw [e9]
        exact zn_astore_n hx hb hdec hv (zLoc_has hl) h1 rfl (fun lsB hB => kk H locs lsB hP hS (zLoc_set1 hl h1 h2 rfl e9 hB))
      · rw [e9]
        exact lv_astore_n hx hb hdec hv (zLoc_has hl) h1 rfl (fun lsB hB => kk H locs lsB hP hS (zLoc_set1 hl h1 h2 rfl e9 hB))
    · cases hi
  | ineg =>
    dsimp only [zIns] at hi
    split at hi
    · simp only [zGo, Option.some.injEq, Sum.inr.injEq, Prod.mk.injEq] at hi
      obtain ⟨rfl, rfl, rfl, rfl, rfl, rfl⟩ := hi
      simp only [zOkI, Bool.and_eq_true, decide_eq_true_eq, Nat.beq_eq] at hok
      obtain rfl := hok
      exact lv_ineg hx hb hdec (kk H locs lsA hP hS hl)
    · cases hi
  | aconst_null =>
    dsimp only [zIns] at hi
    simp only [zGo, Option.some.injEq, Sum.inr.injEq, Prod.mk.injEq] at hi
    obtain ⟨rfl, rfl, rfl, rfl, rfl, rfl⟩ := hi
    simp only [zOkI, Bool.and_eq_true, decide_eq_true_eq, Nat.beq_eq] at hok
    subst hok
    have kk9 := kk H locs lsA hP hS hl
    rw [List.map_cons, zV_null] at kk9
    exact lv_null hx hb hdec kk9
  | ifnull off =>
    simp only [zOkI, Bool.and_eq_true, decide_eq_true_eq, Nat.beq_eq] at hok
    obtain ⟨rfl, hv⟩ := hok
    dsimp only [zIns] at hi
    split at hi
    · rename_i k r
      simp only [zGo, Option.some.injEq, Sum.inr.injEq, Prod.mk.injEq] at hi
      obtain ⟨rfl, rfl, rfl, rfl, rfl, rfl⟩ := hi
      have kk9 := kk H locs lsA hP hS hl
      rw [List.map_cons]
      by_cases e9 : k = 998
      · rw [if_pos e9] at kk9
        rw [show zV b bs (.ref k) = .null from if_pos e9]
        exact lv_ifnullN hx hb hdec hv kk9
      · rw [if_neg e9] at kk9
        rw [show zV b bs (.ref k) = .ref (zAd b bs k) from if_neg e9]
        exact lv_ifnull hx hb hdec kk9
    · cases hi
  | ifnonnull off =>
    simp only [zOkI, Bool.and_eq_true, decide_eq_true_eq, Nat.beq_eq] at hok
    obtain ⟨rfl, hv⟩ := hok
    dsimp only [zIns] at hi
    split at hi
    · rename_i k r
      simp only [zGo, Option.some.injEq, Sum.inr.injEq, Prod.mk.injEq] at hi
      obtain ⟨rfl, rfl, rfl, rfl, rfl, rfl⟩ := hi
      have kk9 := kk H locs lsA hP hS hl
      rw [List.map_cons]
      by_cases e9 : k = 998
      · rw [if_pos e9] at kk9
        rw [show zV b bs (.ref k) = .null from if_pos e9]
        exact lv_ifnonnullN hx hb hdec kk9
      · rw [if_neg e9] at kk9
        rw [show zV b bs (.ref k) = .ref (zAd b bs k) from if_neg e9]
        exact lv_ifnonnull hx hb hdec hv kk9
    · cases hi
  | lstore i =>
    dsimp only [zIns] at hi
    split at hi
    · simp only [zGo, Option.some.injEq, Sum.inr.injEq, Prod.mk.injEq] at hi
      obtain ⟨rfl, rfl, rfl, rfl, rfl, rfl⟩ := hi
      simp only [zOkI, Bool.and_eq_true, decide_eq_true_eq, Nat.beq_eq] at hok
      obtain ⟨rfl, rfl, h1, h2, h3⟩ := hok
      exact lv_lstore hx hb hdec (zLoc_has hl) h1 rfl (fun lsB hB => kk H locs lsB hP hS (zLoc_set2 hl h1 h2 h3 hB))
    · cases hi
  | iinc i n =>
    dsimp only [zIns] at hi
    split at hi
    · rename_i heq
      simp only [zGo, Option.some.injEq, Sum.inr.injEq, Prod.mk.injEq] at hi
      obtain ⟨rfl, rfl, rfl, rfl, rfl, rfl⟩ := hi
      simp only [zOkI, Bool.and_eq_true, decide_eq_true_eq, Nat.beq_eq] at hok
      obtain ⟨rfl, rfl, h1, h2, h3⟩ := hok
      rename_i x
      have hm : (i, Value.int x) ∈ zAs b bs ls := zAs_mem.mpr ⟨_, heq, fun q => (by cases q), rfl⟩
      obtain ⟨k9, hk9⟩ := List.getElem?_of_mem hm
      exact lv_iinc hx hb hdec (zLoc_has hl) hk9 (by rw [h3]) h1 rfl (fun lsB hB => kk H locs lsB hP hS (zLoc_set1 hl h1 h2 rfl rfl hB))
    · cases hi
  | iadd =>
    dsimp only [zIns] at hi
    split at hi
    · simp only [zGo, Option.some.injEq, Sum.inr.injEq, Prod.mk.injEq] at hi
      obtain ⟨rfl, rfl, rfl, rfl, rfl, rfl⟩ := hi
      simp only [zOkI, Bool.and_eq_true, decide_eq_true_eq, Nat.beq_eq] at hok
      obtain rfl := hok
      exact lv_iadd hx hb hdec (kk H locs lsA hP hS hl)
    · cases hi
  | isub =>
    dsimp only [zIns] at hi
    split at hi
    · simp only [zGo, Option.some.injEq, Sum.inr.injEq, Prod.mk.injEq] at hi
      obtain ⟨rfl, rfl, rfl, rfl, rfl, rfl⟩ := hi
      simp only [zOkI, Bool.and_eq_true, decide_eq_true_eq, Nat.beq_eq] at hok
      obtain rfl := hok
      exact lv_isub hx hb hdec (kk H locs lsA hP hS hl)
    · cases hi
  | imul =>
    dsimp only [zIns] at hi
    split at hi
    · simp only [zGo, Option.some.injEq, Sum.inr.injEq, Prod.mk.injEq] at hi
      obtain ⟨rfl, rfl, rfl, rfl, rfl, rfl⟩ := hi
      simp only [zOkI, Bool.and_eq_true, decide_eq_true_eq, Nat.beq_eq] at hok
      obtain rfl := hok
      exact lv_imul hx hb hdec (kk H locs lsA hP hS hl)
    · cases hi
  | iand =>
    dsimp only [zIns] at hi
    split at hi
    · simp only [zGo, Option.some.injEq, Sum.inr.injEq, Prod.mk.injEq] at hi
      obtain ⟨rfl, rfl, rfl, rfl, rfl, rfl⟩ := hi
      simp only [zOkI, Bool.and_eq_true, decide_eq_true_eq, Nat.beq_eq] at hok
      obtain rfl := hok
      exact lv_iand hx hb hdec (kk H locs lsA hP hS hl)
    · cases hi
  | ior =>
    dsimp only [zIns] at hi
    split at hi
    · simp only [zGo, Option.some.injEq, Sum.inr.injEq, Prod.mk.injEq] at hi
      obtain ⟨rfl, rfl, rfl, rfl, rfl, rfl⟩ := hi
      simp only [zOkI, Bool.and_eq_true, decide_eq_true_eq, Nat.beq_eq] at hok
      obtain rfl := hok
      exact lv_ior hx hb hdec (kk H locs lsA hP hS hl)
    · cases hi
  | ixor =>
    dsimp only [zIns] at hi
    split at hi
    · simp only [zGo, Option.some.injEq, Sum.inr.injEq, Prod.mk.injEq] at hi
      obtain ⟨rfl, rfl, rfl, rfl, rfl, rfl⟩ := hi
      simp only [zOkI, Bool.and_eq_true, decide_eq_true_eq, Nat.beq_eq] at hok
      obtain rfl := hok
      exact lv_ixor hx hb hdec (kk H locs lsA hP hS hl)
    · cases hi
  | ishl =>
    dsimp only [zIns] at hi
    split at hi
    · simp only [zGo, Option.some.injEq, Sum.inr.injEq, Prod.mk.injEq] at hi
      obtain ⟨rfl, rfl, rfl, rfl, rfl, rfl⟩ := hi
      simp only [zOkI, Bool.and_eq_true, decide_eq_true_eq, Nat.beq_eq] at hok
      obtain rfl := hok
      exact lv_ishl hx hb hdec (kk H locs lsA hP hS hl)
    · cases hi
  | ishr =>
    dsimp only [zIns] at hi
    split at hi
    · simp only [zGo, Option.some.injEq, Sum.inr.injEq, Prod.mk.injEq] at hi
      obtain ⟨rfl, rfl, rfl, rfl, rfl, rfl⟩ := hi
      simp only [zOkI, Bool.and_eq_true, decide_eq_true_eq, Nat.beq_eq] at hok
      obtain rfl := hok
      exact lv_ishr hx hb hdec (kk H locs lsA hP hS hl)
    · cases hi
  | ladd =>
    dsimp only [zIns] at hi
    split at hi
    · simp only [zGo, Option.some.injEq, Sum.inr.injEq, Prod.mk.injEq] at hi
      obtain ⟨rfl, rfl, rfl, rfl, rfl, rfl⟩ := hi
      simp only [zOkI, Bool.and_eq_true, decide_eq_true_eq, Nat.beq_eq] at hok
      obtain rfl := hok
      exact lv_ladd hx hb hdec (kk H locs lsA hP hS hl)
    · cases hi
  | land =>
    dsimp only [zIns] at hi
    split at hi
    · simp only [zGo, Option.some.injEq, Sum.inr.injEq, Prod.mk.injEq] at hi
      obtain ⟨rfl, rfl, rfl, rfl, rfl, rfl⟩ := hi
      simp only [zOkI, Bool.and_eq_true, decide_eq_true_eq, Nat.beq_eq] at hok
      obtain rfl := hok
      exact lv_land hx hb hdec (kk H locs lsA hP hS hl)
    · cases hi
  | lor =>
    dsimp only [zIns] at hi
    split at hi
    · simp only [zGo, Option.some.injEq, Sum.inr.injEq, Prod.mk.injEq] at hi
      obtain ⟨rfl, rfl, rfl, rfl, rfl, rfl⟩ := hi
      simp only [zOkI, Bool.and_eq_true, decide_eq_true_eq, Nat.beq_eq] at hok
      obtain rfl := hok
      exact lv_lor hx hb hdec (kk H locs lsA hP hS hl)
    · cases hi
  | idiv =>
    dsimp only [zIns] at hi
    split at hi
    · split at hi
      · cases hi
      · rename_i hcond
        simp only [zGo, Option.some.injEq, Sum.inr.injEq, Prod.mk.injEq] at hi
        obtain ⟨rfl, rfl, rfl, rfl, rfl, rfl⟩ := hi
        simp only [zOkI, Bool.and_eq_true, decide_eq_true_eq, Nat.beq_eq] at hok
        subst hok
        exact lv_idiv hx hb hdec hcond (kk H locs lsA hP hS hl)
    · cases hi
  | irem =>
    dsimp only [zIns] at hi
    split at hi
    · split at hi
      · cases hi
      · rename_i hcond
        simp only [zGo, Option.some.injEq, Sum.inr.injEq, Prod.mk.injEq] at hi
        obtain ⟨rfl, rfl, rfl, rfl, rfl, rfl⟩ := hi
        simp only [zOkI, Bool.and_eq_true, decide_eq_true_eq, Nat.beq_eq] at hok
        subst hok
        exact lv_irem hx hb hdec hcond (kk H locs lsA hP hS hl)
    · cases hi
  | ldiv =>
    dsimp only [zIns] at hi
    split at hi
    · split at hi
      · cases hi
      · rename_i hcond
        simp only [zGo, Option.some.injEq, Sum.inr.injEq, Prod.mk.injEq] at hi
        obtain ⟨rfl, rfl, rfl, rfl, rfl, rfl⟩ := hi
        simp only [zOkI, Bool.and_eq_true, decide_eq_true_eq, Nat.beq_eq] at hok
        subst hok
        exact lv_ldiv hx hb hdec hcond (kk H locs lsA hP hS hl)
    · cases hi
  | lrem =>
    dsimp only [zIns] at hi
    split at hi
    · split at hi
      · cases hi
      · rename_i hcond
        simp only [zGo, Option.some.injEq, Sum.inr.injEq, Prod.mk.injEq] at hi
        obtain ⟨rfl, rfl, rfl, rfl, rfl, rfl⟩ := hi
        simp only [zOkI, Bool.and_eq_true, decide_eq_true_eq, Nat.beq_eq] at hok
        subst hok
        exact lv_lrem hx hb hdec hcond (kk H locs lsA hP hS hl)
    · cases hi
  | lshl =>
    dsimp only [zIns] at hi
    split at hi
    · simp only [zGo, Option.some.injEq, Sum.inr.injEq, Prod.mk.injEq] at hi
      obtain ⟨rfl, rfl, rfl, rfl, rfl, rfl⟩ := hi
      simp only [zOkI, Bool.and_eq_true, decide_eq_true_eq, Nat.beq_eq] at hok
      obtain rfl := hok
      exact lv_lshl hx hb hdec rfl (kk H locs lsA hP hS hl)
    · cases hi
  | lcmp =>
    dsimp only [zIns] at hi
    split at hi
    · simp only [zGo, Option.some.injEq, Sum.inr.injEq, Prod.mk.injEq] at hi
      obtain ⟨rfl, rfl, rfl, rfl, rfl, rfl⟩ := hi
      simp only [zOkI, Bool.and_eq_true, decide_eq_true_eq, Nat.beq_eq] at hok
      obtain rfl := hok
      exact W.lcmp hx hb hdec (kk H locs lsA hP hS hl)
    · cases hi
  | i2l =>
    dsimp only [zIns] at hi
    split at hi
    · simp only [zGo, Option.some.injEq, Sum.inr.injEq, Prod.mk.injEq] at hi
      obtain ⟨rfl, rfl, rfl, rfl, rfl, rfl⟩ := hi
      simp only [zOkI, Bool.and_eq_true, decide_eq_true_eq, Nat.beq_eq] at hok
      obtain rfl := hok
      exact lv_i2l hx hb hdec rfl (kk H locs lsA hP hS hl)
    · cases hi
  | l2i =>
    dsimp only [zIns] at hi
    split at hi
    · simp only [zGo, Option.some.injEq, Sum.inr.injEq, Prod.mk.injEq] at hi
      obtain ⟨rfl, rfl, rfl, rfl, rfl, rfl⟩ := hi
      simp only [zOkI, Bool.and_eq_true, decide_eq_true_eq, Nat.beq_eq] at hok
      obtain rfl := hok
      exact lv_l2i hx hb hdec rfl (kk H locs lsA hP hS hl)
    · cases hi
  | i2b =>
    dsimp only [zIns] at hi
    split at hi
    · simp only [zGo, Option.some.injEq, Sum.inr.injEq, Prod.mk.injEq] at hi
      obtain ⟨rfl, rfl, rfl, rfl, rfl, rfl⟩ := hi
      simp only [zOkI, Bool.and_eq_true, decide_eq_true_eq, Nat.beq_eq] at hok
      obtain rfl := hok
      exact lv_i2b hx hb hdec rfl (kk H locs lsA hP hS hl)
    · cases hi
  | i2s =>
    dsimp only [zIns] at hi
    split at hi
    · simp only [zGo, Option.some.injEq, Sum.inr.injEq, Prod.mk.injEq] at hi
      obtain ⟨rfl, rfl, rfl, rfl, rfl, rfl⟩ := hi
      simp only [zOkI, Bool.and_eq_true, decide_eq_true_eq, Nat.beq_eq] at hok
      obtain rfl := hok
      exact lv_i2s hx hb hdec rfl (kk H locs lsA hP hS hl)
    · cases hi
  | dup =>
    dsimp only [zIns] at hi
    split at hi
    · split at hi
      · rename_i hcond; simp only [zGo, Option.some.injEq, Sum.inr.injEq, Prod.mk.injEq] at hi
        obtain ⟨rfl, rfl, rfl, rfl, rfl, rfl⟩ := hi
        simp only [zOkI, Bool.and_eq_true, decide_eq_true_eq, Nat.beq_eq] at hok
        obtain rfl := hok
        exact lv_dup hx hb hdec (by rw [zV_cat]; exact hcond) (kk H locs lsA hP hS hl)
      · cases hi
    · cases hi
  | pop =>
    dsimp only [zIns] at hi
    split at hi
    · split at hi
      · rename_i hcond; simp only [zGo, Option.some.injEq, Sum.inr.injEq, Prod.mk.injEq] at hi
        obtain ⟨rfl, rfl, rfl, rfl, rfl, rfl⟩ := hi
        simp only [zOkI, Bool.and_eq_true, decide_eq_true_eq, Nat.beq_eq] at hok
        obtain rfl := hok
        exact lv_pop hx hb hdec (by rw [zV_cat]; exact hcond) (kk H locs lsA hP hS hl)
      · cases hi
    · cases hi
  | dup2 =>
    dsimp only [zIns] at hi
    split at hi
    · split at hi
      · rename_i hcond; simp only [zGo, Option.some.injEq, Sum.inr.injEq, Prod.mk.injEq] at hi
        obtain ⟨rfl, rfl, rfl, rfl, rfl, rfl⟩ := hi
        simp only [zOkI, Bool.and_eq_true, decide_eq_true_eq, Nat.beq_eq] at hok
        obtain rfl := hok
        exact lv_dup2_11 hx hb hdec (by rw [zV_cat]; exact hcond.1) (by rw [zV_cat]; exact hcond.2) (kk H locs lsA hP hS hl)
      · cases hi
    · cases hi
  | ifCond cnd off =>
    simp only [zOkI, Bool.and_eq_true, decide_eq_true_eq, Nat.beq_eq] at hok
    obtain ⟨rfl, hv⟩ := hok
    dsimp only [zIns] at hi
    split at hi
    · cases cnd
      all_goals dsimp only at hi
      · simp only [zGo, Option.some.injEq, Sum.inr.injEq, Prod.mk.injEq] at hi
        obtain ⟨rfl, rfl, rfl, rfl, rfl, rfl⟩ := hi
        exact lv_if_eq hx hb hdec hv (fun q => by rw [if_pos q] at kk; exact kk H locs lsA hP hS hl) (fun q => by rw [if_neg q] at kk; exact kk H locs lsA hP hS hl)
      · simp only [zGo, Option.some.injEq, Sum.inr.injEq, Prod.mk.injEq] at hi
        obtain ⟨rfl, rfl, rfl, rfl, rfl, rfl⟩ := hi
        exact lv_if_ne hx hb hdec hv (fun q => by rw [if_neg q] at kk; exact kk H locs lsA hP hS hl) (fun q => by rw [if_pos q] at kk; exact kk H locs lsA hP hS hl)
      · simp only [zGo, Option.some.injEq, Sum.inr.injEq, Prod.mk.injEq] at hi
        obtain ⟨rfl, rfl, rfl, rfl, rfl, rfl⟩ := hi
        exact lv_if_lt hx hb hdec hv (fun q => by rw [if_pos q] at kk; exact kk H locs lsA hP hS hl) (fun q => by rw [if_neg q] at kk; exact kk H locs lsA hP hS hl)
      · simp only [zGo, Option.some.injEq, Sum.inr.injEq, Prod.mk.injEq] at hi
        obtain ⟨rfl, rfl, rfl, rfl, rfl, rfl⟩ := hi
        exact lv_if_ge hx hb hdec hv (fun q => by rw [if_pos q] at kk; exact kk H locs lsA hP hS hl) (fun q => by rw [if_neg q] at kk; exact kk H locs lsA hP hS hl)
      · simp only [zGo, Option.some.injEq, Sum.inr.injEq, Prod.mk.injEq] at hi
        obtain ⟨rfl, rfl, rfl, rfl, rfl, rfl⟩ := hi
        exact lv_if_gt hx hb hdec hv (fun q => by rw [if_pos q] at kk; exact kk H locs lsA hP hS hl) (fun q => by rw [if_neg q] at kk; exact kk H locs lsA hP hS hl)
      · simp only [zGo, Option.some.injEq, Sum.inr.injEq, Prod.mk.injEq] at hi
        obtain ⟨rfl, rfl, rfl, rfl, rfl, rfl⟩ := hi
        exact lv_if_le hx hb hdec hv (fun q => by rw [if_pos q] at kk; exact kk H locs lsA hP hS hl) (fun q => by rw [if_neg q] at kk; exact kk H locs lsA hP hS hl)
    · cases hi
  | if_icmp cnd off =>
    simp only [zOkI, Bool.and_eq_true, decide_eq_true_eq, Nat.beq_eq] at hok
    obtain ⟨rfl, hv⟩ := hok
    dsimp only [zIns] at hi
    split at hi
    · cases cnd
      all_goals dsimp only at hi
      · simp only [zGo, Option.some.injEq, Sum.inr.injEq, Prod.mk.injEq] at hi
        obtain ⟨rfl, rfl, rfl, rfl, rfl, rfl⟩ := hi
        exact lv_icmp_eq hx hb hdec hv (fun q => by rw [if_pos q] at kk; exact kk H locs lsA hP hS hl) (fun q => by rw [if_neg q] at kk; exact kk H locs lsA hP hS hl)
      · simp only [zGo, Option.some.injEq, Sum.inr.injEq, Prod.mk.injEq] at hi
        obtain ⟨rfl, rfl, rfl, rfl, rfl, rfl⟩ := hi
        exact lv_icmp_ne hx hb hdec hv (fun q => by rw [if_neg q] at kk; exact kk H locs lsA hP hS hl) (fun q => by rw [if_pos q] at kk; exact kk H locs lsA hP hS hl)
      · simp only [zGo, Option.some.injEq, Sum.inr.injEq, Prod.mk.injEq] at hi
        obtain ⟨rfl, rfl, rfl, rfl, rfl, rfl⟩ := hi
        exact lv_icmp_lt hx hb hdec hv (fun q => by rw [if_pos q] at kk; exact kk H locs lsA hP hS hl) (fun q => by rw [if_neg q] at kk; exact kk H locs lsA hP hS hl)
      · simp only [zGo, Option.some.injEq, Sum.inr.injEq, Prod.mk.injEq] at hi
        obtain ⟨rfl, rfl, rfl, rfl, rfl, rfl⟩ := hi
        exact lv_icmp_ge hx hb hdec hv (fun q => by rw [if_pos q] at kk; exact kk H locs lsA hP hS hl) (fun q => by rw [if_neg q] at kk; exact kk H locs lsA hP hS hl)
      · simp only [zGo, Option.some.injEq, Sum.inr.injEq, Prod.mk.injEq] at hi
        obtain ⟨rfl, rfl, rfl, rfl, rfl, rfl⟩ := hi
        exact lv_icmp_gt hx hb hdec hv (fun q => by rw [if_pos q] at kk; exact kk H locs lsA hP hS hl) (fun q => by rw [if_neg q] at kk; exact kk H locs lsA hP hS hl)
      · simp only [zGo, Option.some.injEq, Sum.inr.injEq, Prod.mk.injEq] at hi
        obtain ⟨rfl, rfl, rfl, rfl, rfl, rfl⟩ := hi
        exact lv_icmp_le hx hb hdec hv (fun q => by rw [if_pos q] at kk; exact kk H locs lsA hP hS hl) (fun q => by rw [if_neg q] at kk; exact kk H locs lsA hP hS hl)
    · cases hi
  | goto off =>
    simp only [zOkI, Bool.and_eq_true, decide_eq_true_eq, Nat.beq_eq] at hok
    obtain ⟨rfl, hv⟩ := hok
    dsimp only [zIns] at hi
    simp only [zGo, Option.some.injEq, Sum.inr.injEq, Prod.mk.injEq] at hi
    obtain ⟨rfl, rfl, rfl, rfl, rfl, rfl⟩ := hi
    exact lv_goto hx hb hdec hv (kk H locs lsA hP hS hl)
  | tableswitch df lo hi9 offs =>
    simp only [zOkI, Bool.and_eq_true, decide_eq_true_eq] at hok
    obtain ⟨h1, h2, h3, h4⟩ := hok
    dsimp only [zIns] at hi
    split at hi
    · rename_i x r
      simp only [zGo, Option.some.injEq, Sum.inr.injEq, Prod.mk.injEq] at hi
      obtain ⟨rfl, rfl, rfl, rfl, rfl, rfl⟩ := hi
      by_cases hr : x.toInt < lo ∨ hi9 < x.toInt
      · have e9 : zSw sw x r1 = r1 := zSw_out (fun q hq hxq => by
          have h9 := List.all_eq_true.mp h3 q hq
          simp only [Bool.and_eq_true, decide_eq_true_eq] at h9
          rw [← hxq] at h9
          omega)
        rw [e9] at kk
        exact lv_tableOut hx hb hdec hr h1 (kk H locs lsA hP hS hl)
      · have hn : (x.toInt - lo).toNat < offs.size := by omega
        have h9 := List.all_eq_true.mp h4 (x.toInt - lo).toNat (List.mem_range.mpr hn)
        simp only [decide_eq_true_eq] at h9
        have e1 : lo + (((x.toInt - lo).toNat : Nat) : Int) = x.toInt := by omega
        rw [e1, Int32.ofInt_toInt] at h9
        have e2 : offs[(x.toInt - lo).toNat]? = some (offs.getD (x.toInt - lo).toNat 0) := by
          simp [Array.getD, hn]
        exact lv_tableIn hx hb hdec (fun q => hr (Or.inl q)) (fun q => hr (Or.inr q)) e2 h9 (kk H locs lsA hP hS hl)
    · cases hi
  | lookupswitch df ps =>
    simp only [zOkI, Bool.and_eq_true, decide_eq_true_eq] at hok
    obtain ⟨h1, h2, h3⟩ := hok
    dsimp only [zIns] at hi
    split at hi
    · rename_i x r
      simp only [zGo, Option.some.injEq, Sum.inr.injEq, Prod.mk.injEq] at hi
      obtain ⟨rfl, rfl, rfl, rfl, rfl, rfl⟩ := hi
      exact lv_lookup hx hb hdec h2 rfl (zSw_look h1 sw ps.toList h3) (kk H locs lsA hP hS hl)
    · cases hi
  | getfield ix =>
    simp only [zOkI, Bool.and_eq_true, decide_eq_true_eq, Nat.beq_eq] at hok
    obtain ⟨rfl, h1, h2, h3⟩ := hok
    dsimp only [zIns] at hi
    split at hi
    · rename_i k r
      split at hi
      · rename_i hk
        simp only [zGo, Option.some.injEq, Sum.inr.injEq, Prod.mk.injEq] at hi
        obtain ⟨rfl, rfl, rfl, rfl, rfl, rfl⟩ := hi
        have hkn : k < zNC := zKd_lt hk (by omega)
        have he := zW_get (b := b) (cs := cs) (f := f) (a := a) (j := j) hkn
        rw [zCell_obj hk (by omega)] at he
        have hv : (zFs b f k)[r2]? = some (zV b bs (if zIsR r1 r2 = true then .ref (zRf k r2) else .int (f k r2))) := by
          unfold zFs
          rw [hk]
          rw [List.getElem?_map, List.getElem?_range h2]
          simp only [Option.map_some, Option.some.injEq]
          split
          · rename_i hr
            have hlt : zRf k r2 < zNC := zRf_lt hkn hk hr h2
            exact (zV_lt hlt).symm
          · rfl
        have ea : zV b bs (.ref k) = .ref (b + k) := zV_lt hkn
        rw [List.map_cons, ea]
        exact va_get (D := D) (T := (zC r1).2.1) hx hb hts (zin_all h1) hown hK hP k he (zvCl_at h1) r2 h2 (hts _ (zTab_of h3 rfl)) (fun _ h9 => h9) hv hdec (kk H locs lsA hP hS hl)
      · cases hi
    · cases hi
  | putfield ix =>
    simp only [zOkI, Bool.and_eq_true, decide_eq_true_eq, Nat.beq_eq] at hok
    obtain ⟨rfl, h1, h2, h3, h4, h5, h6⟩ := hok
    dsimp only [zIns] at hi
    split at hi
    · rename_i x k r
      split at hi
      · rename_i hk
        obtain ⟨hk, hz⟩ := hk
        simp only [zGo, Option.some.injEq, Sum.inr.injEq, Prod.mk.injEq] at hi
        obtain ⟨rfl, rfl, rfl, rfl, rfl, rfl⟩ := hi
        have hkn : k < zNC := zKd_lt hk (by omega)
        have he := zW_get (b := b) (cs := cs) (f := f) (a := a) (j := j) hkn
        rw [zCell_obj hk (by omega)] at he
        have ea : zV b bs (.ref k) = .ref (b + k) := zV_lt hkn
        rw [List.map_cons, List.map_cons, ea]
        obtain ⟨ty0, hty⟩ := zty_all h1
        have hfl : r2 < (zFs b f k).length := by simpa [zFs, hk] using h2
        have key : ∀ (ty : FieldType), parseFieldDescriptor ((zC r1).2.1 r2).2.2.1 = some ty → narrow ty (.int x) = .int x → fits ty (.int x) = true → W p l e R s m args below meth c H locs cells slots Q (F0 m pc lsA (.int x :: .ref (b + k) :: r.map (zV b bs))) := by
          intro ty hd hn hft
          refine va_put (D := D) (T := (zC r1).2.1) hx hb hts (zin_all h1) ty0 hty (znm_all h1) hown hK hP hD hS k he (zvCl_at h1) r2 h2 (hts _ (zTab_of h3 rfl)) (fun _ h9 => h9) h4 hd hn hft hfl hdec (fun H1 locs1 hP1 hD1 hS1 => kk H1 locs1 lsA ?_ hS1 hl)
          refine zW_set hP1 hkn (fun h9 => ?_) (fun i hi hik => ?_)
          · rw [zCell_obj hk (by omega), zFs_set (by rw [hk]; exact h2) (by rw [hk]; exact h5)]
            exact h9
          · unfold zCell
            rw [zFs_ne hik]
        cases hzz : zIsZ r1 r2 with
        | true =>
          rw [hzz, if_pos rfl] at h6
          refine key .boolean (by rw [h6]; rfl) ?_ ?_
          · rcases hz hzz with rfl | rfl <;> rfl
          · rcases hz hzz with rfl | rfl <;> rfl
        | false =>
          rw [hzz, if_neg (by decide)] at h6
          exact key .int (by rw [h6]; rfl) rfl rfl
      · cases hi
    · cases hi
  | iaload =>
    simp only [zOkI, Bool.and_eq_true, decide_eq_true_eq, Nat.beq_eq] at hok
    subst hok
    dsimp only [zIns] at hi
    split at hi
    · rename_i i k r
      split at hi
      · rename_i hk
        obtain ⟨hk, hin⟩ := hk
        simp only [zGo, Option.some.injEq, Sum.inr.injEq, Prod.mk.injEq] at hi
        obtain ⟨rfl, rfl, rfl, rfl, rfl, rfl⟩ := hi
        have hkn : k < zNC := zKd_lt hk (by decide)
        have he := zW_get (b := b) (cs := cs) (f := f) (a := a) (j := j) hkn
        rw [zCell_i hk (Or.inr rfl)] at he
        have ea : zV b bs (.ref k) = .ref (b + k) := zV_lt hkn
        rw [List.map_cons, List.map_cons, ea]
        refine va_iald hx hb hK hP k 1 he rfl hin hdec ?_
        have e9 : nI i.toNatClampNeg = i := z_nIc (fun q => hin (Or.inl q))
        have kk9 := kk H locs lsA hP hS hl
        show W p l e R s m args below meth c H locs cells slots Q (F0 m (pc + 1) lsA (.int (a k (nI i.toNatClampNeg)) :: r.map (zV b bs)))
        rw [e9]
        exact kk9
      · split at hi
        · rename_i hk
          obtain ⟨rfl, rfl, hin⟩ := hk
          simp only [zGo, Option.some.injEq, Sum.inr.injEq, Prod.mk.injEq] at hi
          obtain ⟨rfl, rfl, rfl, rfl, rfl, rfl⟩ := hi
          obtain ⟨s1, s2, s3, s4⟩ := hsc rfl
          refine va_sld (b := bs) hx hb s3 s1 s2 hS hin hdec ?_
          have e9 : nI i.toNatClampNeg = i := z_nIc (fun q => hin (Or.inl q))
          have kk9 := kk H locs lsA hP hS hl
          show W p l e R s m args below meth c H locs cells slots Q (F0 m (pc + 1) lsA (.int (sc.2 (nI i.toNatClampNeg)) :: r.map (zV b bs)))
          rw [e9]
          exact kk9
        · cases hi
    · cases hi
  | baload =>
    simp only [zOkI, Bool.and_eq_true, decide_eq_true_eq, Nat.beq_eq] at hok
    subst hok
    dsimp only [zIns] at hi
    split at hi
    · rename_i i k r
      split at hi
      · rename_i hk
        obtain ⟨hk, hin⟩ := hk
        simp only [zGo, Option.some.injEq, Sum.inr.injEq, Prod.mk.injEq] at hi
        obtain ⟨rfl, rfl, rfl, rfl, rfl, rfl⟩ := hi
        have hkn : k < zNC := zKd_lt hk (by decide)
        have he := zW_get (b := b) (cs := cs) (f := f) (a := a) (j := j) hkn
        rw [zCell_i hk (Or.inl rfl)] at he
        have ea : zV b bs (.ref k) = .ref (b + k) := zV_lt hkn
        rw [List.map_cons, List.map_cons, ea]
        refine va_bald hx hb hK hP k 0 he rfl hin hdec ?_
        have e9 : nI i.toNatClampNeg = i := z_nIc (fun q => hin (Or.inl q))
        have kk9 := kk H locs lsA hP hS hl
        show W p l e R s m args below meth c H locs cells slots Q (F0 m (pc + 1) lsA (.int (a k (nI i.toNatClampNeg)) :: r.map (zV b bs)))
        rw [e9]
        exact kk9
      · cases hi
    · cases hi
  | laload =>
    simp only [zOkI, Bool.and_eq_true, decide_eq_true_eq, Nat.beq_eq] at hok
    subst hok
    dsimp only [zIns] at hi
    split at hi
    · rename_i i k r
      split at hi
      · rename_i hk
        obtain ⟨hk, hin⟩ := hk
        simp only [zGo, Option.some.injEq, Sum.inr.injEq, Prod.mk.injEq] at hi
        obtain ⟨rfl, rfl, rfl, rfl, rfl, rfl⟩ := hi
        have hkn : k < zNC := zKd_lt hk (by decide)
        have he := zW_get (b := b) (cs := cs) (f := f) (a := a) (j := j) hkn
        rw [zCell_l hk] at he
        have ea : zV b bs (.ref k) = .ref (b + k) := zV_lt hkn
        rw [List.map_cons, List.map_cons, ea]
        refine va_lald hx hb hK hP k 2 he rfl hin hdec ?_
        have e9 : nI i.toNatClampNeg = i := z_nIc (fun q => hin (Or.inl q))
        have kk9 := kk H locs lsA hP hS hl
        show W p l e R s m args below meth c H locs cells slots Q (F0 m (pc + 1) lsA (.long (j k (nI i.toNatClampNeg)) :: r.map (zV b bs)))
        rw [e9]
        exact kk9
      · cases hi
    · cases hi
  | aaload =>
    simp only [zOkI, Bool.and_eq_true, decide_eq_true_eq, Nat.beq_eq] at hok
    subst hok
    dsimp only [zIns] at hi
    split at hi
    · rename_i i k r
      split at hi
      · rename_i hk
        obtain ⟨hk, hin⟩ := hk
        simp only [zGo, Option.some.injEq, Sum.inr.injEq, Prod.mk.injEq] at hi
        obtain ⟨rfl, rfl, rfl, rfl, rfl, rfl⟩ := hi
        have hkn : k < zNC := by rcases hk with h | h <;> exact zKd_lt h (by decide)
        have he := zW_get (b := b) (cs := cs) (f := f) (a := a) (j := j) hkn
        rw [zCell_q rfl hk] at he
        have hlt : i.toNatClampNeg < zLn k := Nat.not_le.mp fun q => hin (Or.inr q)
        have hr : zRf k i.toNatClampNeg < zNC := zRf_lt2 hkn hk hlt
        have ea : zV b bs (.ref k) = .ref (b + k) := zV_lt hkn
        have kk9 := kk H locs lsA hP hS hl
        rw [List.map_cons, show zV b bs (.ref (zRf k i.toNatClampNeg)) = .ref (b + zRf k i.toNatClampNeg) from zV_lt hr] at kk9
        rw [List.map_cons, List.map_cons, ea]
        rcases hk with h | h
        · rw [h] at he
          exact va_aldq hx hb hK hP k 3 he rfl hin hdec kk9
        · rw [h] at he
          exact W.aald (v := .ref (b + zRf k i.toNatClampNeg)) (ty := .array .int) hx hb (hP k _ he) ((hK.2 4 _ rfl).1 (zLn k) (fun q => va_rf (some (b + zRf k q)))) rfl (fun q => by cases q) (by show ¬ (i < 0 ∨ (arrV _ _ _).slots.size ≤ _); rw [arrV_size]; exact hin) (by show (arrV _ _ _).slots[_]? = _; rw [arrV_read _ _ hlt]; rfl) rfl rfl hdec kk9
      · cases hi
    · cases hi
  | iastore =>
    simp only [zOkI, Bool.and_eq_true, decide_eq_true_eq, Nat.beq_eq] at hok
    subst hok
    dsimp only [zIns] at hi
    split at hi
    · rename_i x i k r
      split at hi
      · rename_i hk
        obtain ⟨hk, hin⟩ := hk
        simp only [zGo, Option.some.injEq, Sum.inr.injEq, Prod.mk.injEq] at hi
        obtain ⟨rfl, rfl, rfl, rfl, rfl, rfl⟩ := hi
        have hkn : k < zNC := zKd_lt hk (by decide)
        have he := zW_get (b := b) (cs := cs) (f := f) (a := a) (j := j) hkn
        rw [zCell_i hk (Or.inr rfl)] at he
        have ea : zV b bs (.ref k) = .ref (b + k) := zV_lt hkn
        have hi0 : ¬ i < 0 := fun q => hin (Or.inl q)
        rw [List.map_cons, List.map_cons, List.map_cons, ea]
        refine va_iast hx hb hK hP hD hS k 1 he rfl hin hdec (fun H1 locs1 hP1 hD1 hS1 => kk H1 locs1 lsA ?_ hS1 hl)
        refine zW_set hP1 hkn (fun h9 => ?_) (fun i9 hi9 hik => ?_)
        · rw [zCell_i hk (Or.inr rfl)]
          refine h9.trans (congrArg some (zcell_i (fun q hq => ?_)))
          have hq2 : q < 2 ^ 31 := by have := zLn_le k; omega
          by_cases e9 : q = i.toNatClampNeg
          · subst e9
            simp [upd, zuA, z_nIc hi0]
          · have e8 : nI q ≠ i := fun z => e9 (by rw [← z, nI_clamp hq2])
            simp [upd, zuA, e8, e9]
        · unfold zCell
          simp [upd, zuA, hik]
      · cases hi
    · cases hi
  | bastore =>
    simp only [zOkI, Bool.and_eq_true, decide_eq_true_eq, Nat.beq_eq] at hok
    subst hok
    dsimp only [zIns] at hi
    split at hi
    · rename_i x i k r
      split at hi
      · rename_i hk
        obtain ⟨hk, hin⟩ := hk
        simp only [zGo, Option.some.injEq, Sum.inr.injEq, Prod.mk.injEq] at hi
        obtain ⟨rfl, rfl, rfl, rfl, rfl, rfl⟩ := hi
        have hkn : k < zNC := zKd_lt hk (by decide)
        have he := zW_get (b := b) (cs := cs) (f := f) (a := a) (j := j) hkn
        rw [zCell_i hk (Or.inl rfl)] at he
        have ea : zV b bs (.ref k) = .ref (b + k) := zV_lt hkn
        have hi0 : ¬ i < 0 := fun q => hin (Or.inl q)
        rw [List.map_cons, List.map_cons, List.map_cons, ea]
        refine va_bast hx hb hK hP hD hS k 0 he rfl hin hdec (fun H1 locs1 hP1 hD1 hS1 => kk H1 locs1 lsA ?_ hS1 hl)
        refine zW_set hP1 hkn (fun h9 => ?_) (fun i9 hi9 hik => ?_)
        · rw [zCell_i hk (Or.inl rfl)]
          refine h9.trans (congrArg some (zcell_i (fun q hq => ?_)))
          have hq2 : q < 2 ^ 31 := by have := zLn_le k; omega
          by_cases e9 : q = i.toNatClampNeg
          · subst e9
            simp [upd, zuA, vp_nar_byte, z_nIc hi0]
          · have e8 : nI q ≠ i := fun z => e9 (by rw [← z, nI_clamp hq2])
            simp [upd, zuA, vp_nar_byte, e8, e9]
        · unfold zCell
          simp [upd, zuA, vp_nar_byte, hik]
      · cases hi
    · cases hi
  | lastore =>
    simp only [zOkI, Bool.and_eq_true, decide_eq_true_eq, Nat.beq_eq] at hok
    subst hok
    dsimp only [zIns] at hi
    split at hi
    · rename_i x i k r
      split at hi
      · rename_i hk
        obtain ⟨hk, hin⟩ := hk
        simp only [zGo, Option.some.injEq, Sum.inr.injEq, Prod.mk.injEq] at hi
        obtain ⟨rfl, rfl, rfl, rfl, rfl, rfl⟩ := hi
        have hkn : k < zNC := zKd_lt hk (by decide)
        have he := zW_get (b := b) (cs := cs) (f := f) (a := a) (j := j) hkn
        rw [zCell_l hk] at he
        have ea : zV b bs (.ref k) = .ref (b + k) := zV_lt hkn
        have hi0 : ¬ i < 0 := fun q => hin (Or.inl q)
        rw [List.map_cons, List.map_cons, List.map_cons, ea]
        refine va_last hx hb hK hP hD hS k 2 he rfl hin hdec (fun H1 locs1 hP1 hD1 hS1 => kk H1 locs1 lsA ?_ hS1 hl)
        refine zW_set hP1 hkn (fun h9 => ?_) (fun i9 hi9 hik => ?_)
        · rw [zCell_l hk]
          refine h9.trans (congrArg some (zcell_l (fun q hq => ?_)))
          have hq2 : q < 2 ^ 31 := by have := zLn_le k; omega
          by_cases e9 : q = i.toNatClampNeg
          · subst e9
            simp [vp_updL, zuJ, z_nIc hi0]
          · have e8 : nI q ≠ i := fun z => e9 (by rw [← z, nI_clamp hq2])
            simp [vp_updL, zuJ, e8, e9]
        · unfold zCell
          simp [vp_updL, zuJ, hik]
      · cases hi
    · cases hi
  | arraylength =>
    simp only [zOkI, Bool.and_eq_true, decide_eq_true_eq, Nat.beq_eq] at hok
    subst hok
    dsimp only [zIns] at hi
    split at hi
    · rename_i k r
      split at hi
      · rename_i hk
        simp only [zGo, Option.some.injEq, Sum.inr.injEq, Prod.mk.injEq] at hi
        obtain ⟨rfl, rfl, rfl, rfl, rfl, rfl⟩ := hi
        have hkn : k < zNC := zKd_lt rfl (by omega)
        have he := zW_get (b := b) (cs := cs) (f := f) (a := a) (j := j) hkn
        have ea : zV b bs (.ref k) = .ref (b + k) := zV_lt hkn
        have kk9 := kk H locs lsA hP hS hl
        rw [List.map_cons, ea]
        rcases (show zKd k = 20 ∨ zKd k = 21 ∨ zKd k = 22 ∨ zKd k = 23 ∨ zKd k = 24 by omega) with h | h | h | h | h
        · rw [zCell_i h (Or.inl rfl)] at he
          exact va_alen hx hb hK hP k 0 he rfl rfl hdec kk9
        · rw [zCell_i h (Or.inr rfl)] at he
          exact va_alen hx hb hK hP k 1 he rfl rfl hdec kk9
        · rw [zCell_l h] at he
          exact va_alen hx hb hK hP k 2 he rfl rfl hdec kk9
        · rw [zCell_q h (Or.inl rfl)] at he
          exact va_alen hx hb hK hP k 3 he rfl rfl hdec kk9
        · rw [zCell_q h (Or.inr rfl)] at he
          exact va_alen hx hb hK hP k 4 he rfl rfl hdec kk9
      · split at hi
        · rename_i hk
          obtain ⟨rfl, rfl⟩ := hk
          simp only [zGo, Option.some.injEq, Sum.inr.injEq, Prod.mk.injEq] at hi
          obtain ⟨rfl, rfl, rfl, rfl, rfl, rfl⟩ := hi
          obtain ⟨s1, s2, s3, s4⟩ := hsc rfl
          refine va_slen (b := bs) hx hb s3 s1 s2 hS hdec ?_
          have kk9 := kk H locs lsA hP hS hl
          show W p l e R s m args below meth c H locs cells slots Q (F0 m (pc + 1) lsA (.int (nI sc.1.toNatClampNeg) :: r.map (zV b bs)))
          rw [s4]
          exact kk9
        · cases hi
    · cases hi
  | invokevirtual ix =>
    simp only [zOkI, Bool.and_eq_true, decide_eq_true_eq, Nat.beq_eq] at hok
    obtain ⟨rfl, h1, h2, h3, h4, h5⟩ := hok
    dsimp only [zIns] at hi
    split at hi
    · rename_i k r hd
      split at hi
      · rename_i hk
        obtain ⟨hk, hr⟩ := hk
        split at hi
        · rename_i rv f9 a9 j9 hF9
          simp only [zGo, Option.some.injEq, Sum.inr.injEq, Prod.mk.injEq] at hi
          obtain ⟨rfl, rfl, rfl, rfl, rfl, rfl⟩ := hi
          obtain ⟨y1, y2, y3, y4, y5, y6, y7, y8⟩ := zYok_use (hY r1 h1 h2)
          obtain ⟨y8, y9, y10, y11⟩ := y8 h4
          have hkn : k < zNC := zKd_lt hk (by omega)
          have he := zW_get (b := b) (cs := cs) (f := f) (a := a) (j := j) hkn
          rw [zCell_obj hk (by omega)] at he
          have hM := hF _ _ _ _ _ _ hF9 h1 h2
          have hst : st.map (zV b bs) = ((st.take r2).reverse.map (zV b bs)).reverse ++ .ref (b + k) :: r.map (zV b bs) := by
            rw [← List.map_reverse, List.reverse_reverse]
            have e9 : st = st.take r2 ++ (.ref k :: r) := by rw [← hd, List.take_append_drop]
            conv => lhs; rw [e9]
            rw [List.map_append, List.map_cons]
            congr 2
            exact zV_lt hkn
          have hlen : r2 ≤ st.length := by
            rcases Nat.lt_or_ge st.length r2 with q | q
            · rw [List.drop_eq_nil_of_le (Nat.le_of_lt q)] at hd
              cases hd
            · exact q
          rw [hst]
          have hgood : GoodIn zTab (wsV (zY y).cls ix (zY r1).cls (zY r1) (zWs r1)) := by
            intro w hw
            rcases List.mem_append.mp hw with hw | hw
            · have hm : w ∈ zTab := by
                rcases List.mem_cons.mp hw with rfl | hw
                · exact zTab_of h5 rfl
                rcases List.mem_cons.mp hw with rfl | hw
                · exact y8
                rcases List.mem_cons.mp hw with rfl | hw
                · exact y9
                rcases List.mem_cons.mp hw with rfl | hw
                · exact y2
                · cases hw
              exact ⟨hm, zTab_good hm⟩
            · exact zGood (hY r1 h1 h2) w hw
          have hrr : zV b bs (.ref k) = .ref (b + k) := zV_lt hkn
          have hsr : (r.map (zV b bs)).map (fun v => v.category) = r.map (fun v => v.category) := by
            rw [List.map_map]
            exact List.map_congr_left (fun v _ => zV_cat b bs v)
          refine z_call (va_runV (As := (st.take r2).reverse.map (zV b bs)) (rest := r.map (zV b bs)) (C := (zY r1).cls) (b := b + k) ⟨hx, hb, hml, hown, hts⟩ hM (cwV r2 hts hgood rfl rfl rfl ⟨rfl, y3.1, y3.2, by rw [y4, h3]⟩ ⟨hRf, by show 8 + (zMx r1 + 11) + 37 * d ≤ R.locals; omega⟩) ⟨zPc_blind, ?_, fun U hU hW => ⟨?_, by rw [hU]; exact hP, va_K.moved hW.alike hK, zNest_warm hW hN⟩⟩ rfl (by simp; omega) hl.1.1 rfl (lv_room (by rw [hsr]; exact hr)) hdec ⟨hRc, hRs⟩) hS hA (fun H1 locs1 hP1 hS1 => ?_)
          · have h9 := va_recv hK hP (ci := zYc r1) (q0 := k) (zvCl_at y11) he
            rw [y10] at h9
            exact h9
          · rw [List.map_cons, hrr]
          · have kk9 := kk H1 locs1 lsA hP1 hS1 hl
            rw [List.map_append] at kk9
            cases rv <;> exact kk9
        · cases hi
      · cases hi
    · cases hi
  | invokestatic ix =>
    simp only [zOkI, Bool.and_eq_true, Nat.beq_eq] at hok
    obtain ⟨rfl, hok⟩ := hok
    dsimp only [zIns] at hi
    by_cases h9 : r1 = 999
    · rw [if_pos h9] at hok hi
      have h5 := of_decide_eq_true hok
      split at hi
      · rename_i n dp d9 sp q r
        have hsr : (r.map (zV b bs)).map (fun v => v.category) = r.map (fun v => v.category) := by
          rw [List.map_map]
          exact List.map_congr_left (fun v _ => zV_cat b bs v)
        split at hi
        · rename_i hc
          obtain ⟨⟨k1, k2⟩, ⟨n1, n2, n3⟩, ⟨l1, l2⟩, hr⟩ := hc
          simp only [zGo, Option.some.injEq, Sum.inr.injEq, Prod.mk.injEq] at hi
          obtain ⟨rfl, rfl, rfl, rfl, rfl, rfl⟩ := hi
          have hqn : q < zNC := zKd_lt k1 (by decide)
          have hdn : d9 < zNC := zKd_lt k2 (by decide)
          have he := zW_get (b := b) (cs := cs) (f := f) (a := a) (j := j) hqn
          have he2 := zW_get (b := b) (cs := cs) (f := f) (a := a) (j := j) hdn
          rw [zCell_i k1 (Or.inr rfl)] at he
          rw [zCell_i k2 (Or.inr rfl)] at he2
          have e1 : zV b bs (.ref q) = .ref (b + q) := zV_lt hqn
          have e2 : zV b bs (.ref d9) = .ref (b + d9) := zV_lt hdn
          rw [List.map_cons, List.map_cons, List.map_cons, List.map_cons, List.map_cons, e1, e2]
          refine va_copyi hx hb (hml.trans hl.1.1.symm) hown (hts _ (zTab_of h5 rfl)) (hts _ zcp_nat) (hts _ zcp_stat) (hts _ zcp_ini) hK hP hD hS q d9 1 1 he he2 rfl rfl rfl n1 n2 n3 l1 l2 (fun _ _ => rfl) (by omega) (by rw [hsr]; show _ + (7 + 11) ≤ _; omega) hdec (fun H1 locs1 hP1 hD1 hS1 => kk H1 locs1 lsA ?_ hS1 hl)
          refine zW_set hP1 hdn (fun h9 => ?_) (fun i9 hi9 hik => ?_)
          · rw [zCell_i k2 (Or.inr rfl)]
            refine h9.trans (congrArg some (zcell_i (fun z hz => ?_)))
            have hz2 : z < 2 ^ 31 := by have := zLn_le d9; omega
            simp only [va_cpy, zcA, nI_clamp hz2, nI_pos hz2, not_false_eq_true, true_and]
          · unfold zCell
            simp [zcA, hik]
        · split at hi
          · rename_i hc
            obtain ⟨⟨k1, k2⟩, ⟨n1, n2, n3⟩, ⟨l1, l2⟩, hr⟩ := hc
            simp only [zGo, Option.some.injEq, Sum.inr.injEq, Prod.mk.injEq] at hi
            obtain ⟨rfl, rfl, rfl, rfl, rfl, rfl⟩ := hi
            have hqn : q < zNC := zKd_lt k1 (by decide)
            have hdn : d9 < zNC := zKd_lt k2 (by decide)
            have he := zW_get (b := b) (cs := cs) (f := f) (a := a) (j := j) hqn
            have he2 := zW_get (b := b) (cs := cs) (f := f) (a := a) (j := j) hdn
            rw [zCell_l k1] at he
            rw [zCell_l k2] at he2
            have e1 : zV b bs (.ref q) = .ref (b + q) := zV_lt hqn
            have e2 : zV b bs (.ref d9) = .ref (b + d9) := zV_lt hdn
            rw [List.map_cons, List.map_cons, List.map_cons, List.map_cons, List.map_cons, e1, e2]
            refine va_copyl hx hb (hml.trans hl.1.1.symm) hown (hts _ (zTab_of h5 rfl)) (hts _ zcp_nat) (hts _ zcp_stat) (hts _ zcp_ini) hK hP hD hS q d9 2 2 he he2 rfl rfl rfl n1 n2 n3 l1 l2 (fun _ _ => rfl) (by omega) (by rw [hsr]; show _ + (7 + 11) ≤ _; omega) hdec (fun H1 locs1 hP1 hD1 hS1 => kk H1 locs1 lsA ?_ hS1 hl)
            refine zW_set hP1 hdn (fun h9 => ?_) (fun i9 hi9 hik => ?_)
            · rw [zCell_l k2]
              refine h9.trans (congrArg some (zcell_l (fun z hz => ?_)))
              have hz2 : z < 2 ^ 31 := by have := zLn_le d9; omega
              simp only [va_cpy, zcJ, nI_clamp hz2, nI_pos hz2, not_false_eq_true, true_and]
            · unfold zCell
              simp [zcJ, hik]
          · cases hi
      · cases hi
    · rw [if_neg h9] at hok hi
      simp only [Bool.and_eq_true, decide_eq_true_eq, Bool.or_eq_true] at hok
      obtain ⟨h1, h2, h3, h4, h5⟩ := hok
      split at hi
      · rename_i hc
        obtain ⟨hlen, hr⟩ := hc
        split at hi
        · rename_i rv f9 a9 j9 hF9
          simp only [zGo, Option.some.injEq, Sum.inr.injEq, Prod.mk.injEq] at hi
          obtain ⟨rfl, rfl, rfl, rfl, rfl, rfl⟩ := hi
          obtain ⟨y1, y2, y3, y4, y5, y6, y7, y8⟩ := zYok_use (hY r1 h1 h2)
          have y7 := y7 h4
          have hM := hF _ _ _ _ _ _ hF9 h1 h2
          have hst : st.map (zV b bs) = ((st.take r2).reverse.map (zV b bs)).reverse ++ (st.drop r2).map (zV b bs) := by
            rw [← List.map_reverse, List.reverse_reverse, ← List.map_append, List.take_append_drop]
          rw [hst]
          have hsr : ((st.drop r2).map (zV b bs)).map (fun v => v.category) = (st.drop r2).map (fun v => v.category) := by
            rw [List.map_map]
            exact List.map_congr_left (fun v _ => zV_cat b bs v)
          have hkk : ∀ (H1 : Heap) (locs1 : List Loc), va_P D zvCl (zW b cs f9 a9 j9) H1 → va_S A H0 H1 locs1 → W p l e R s m args below meth c H1 locs1 cells slots Q (F0 m (pc + 3) lsA ((rv.map (zV b bs)).toList ++ (st.drop r2).map (zV b bs))) := by
            intro H1 locs1 hP1 hS1
            have kk9 := kk H1 locs1 lsA hP1 hS1 hl
            rw [List.map_append] at kk9
            cases rv <;> exact kk9
          have hpre : PreS s H (zPc b bs D cs (st.take r2).reverse f a j) ((st.take r2).reverse.map (zV b bs)) := ⟨zPc_blind, fun U hU hW => ⟨rfl, by rw [hU]; exact hP, va_K.moved hW.alike hK, zNest_warm hW hN⟩⟩
          rcases h5 with h5 | h5
          · have hgood : GoodIn zTab (va_wsS (zY y).cls ix (zY r1) (zWs r1)) := by
              intro w hw
              rcases List.mem_append.mp hw with hw | hw
              · have hm : w ∈ zTab := by
                  rcases List.mem_cons.mp hw with rfl | hw
                  · exact zTab_of h5 rfl
                  rcases List.mem_cons.mp hw with rfl | hw
                  · exact y7
                  rcases List.mem_cons.mp hw with rfl | hw
                  · exact y2
                  · cases hw
                exact ⟨hm, zTab_good hm⟩
              · exact zGood (hY r1 h1 h2) w hw
            exact z_call (va_runS (As := (st.take r2).reverse.map (zV b bs)) (rest := (st.drop r2).map (zV b bs)) ⟨hx, hb, hml, hown, hts⟩ hM (va_cwS r2 hts hgood rfl rfl rfl ⟨y3.1, y3.2, by rw [y4, h3]⟩ ⟨hRf, by show 8 + (zMx r1 + 11) + 37 * d ≤ R.locals; omega⟩) hpre rfl (by simp; omega) hl.1.1 rfl (lv_room (by rw [hsr]; exact hr)) hdec ⟨hRc, hRs⟩) hS hA hkk
          · have hnw : va_Nw (.methodLinkNest (zY y).cls ix (zY r1) "CanalTurns") s := hN _ (List.mem_filter.mpr ⟨List.mem_of_getElem? h5, rfl⟩)
            exact z_call (va_runSN (As := (st.take r2).reverse.map (zV b bs)) (rest := (st.drop r2).map (zV b bs)) ⟨hx, hb, hml, hown, hts⟩ hM ⟨va_cnB r2 hts (zGood (hY r1 h1 h2)) rfl rfl rfl hnw (hts _ y2) ⟨y3.1, y3.2, by rw [y4, h3]⟩ ⟨hRf, by show 8 + (zMx r1 + 11) + 37 * d ≤ R.locals; omega⟩, hts _ y7, trivial⟩ hpre rfl (by simp; omega) hl.1.1 rfl (lv_room (by rw [hsr]; exact hr)) hdec ⟨hRc, hRs⟩) hS hA hkk
        · cases hi
      · cases hi
  | ireturn =>
    dsimp only [zIns] at hi
    split at hi
    · first | (split at hi <;> cases hi) | cases hi
    · cases hi
  | lreturn =>
    dsimp only [zIns] at hi
    split at hi
    · first | (split at hi <;> cases hi) | cases hi
    · cases hi
  | areturn =>
    dsimp only [zIns] at hi
    split at hi
    · first | (split at hi <;> cases hi) | cases hi
    · cases hi
  | return_ =>
    dsimp only [zIns] at hi
    split at hi
    · first | (split at hi <;> cases hi) | cases hi
    · cases hi
  | _ => cases hi
