/-! ===== THE SMALL MACHINE IS THE MACHINE (3): runs and methods ===== -/
/-- of a method: all its instructions are checked -/
def zChk (y : Nat) : Prop := ∀ e ∈ zTbs.getD y [], zOk y e = true
theorem zOp_ok {y pc : Nat} (h : zChk y) {e : zE} (ho : zOp y pc = some e) : e.1 = pc ∧ decode (zCo y) pc = .ok (e.2.1, e.2.2.1) ∧ zOkI y e.2.1 pc e.2.2.1 e.2.2.2.1 e.2.2.2.2.1 e.2.2.2.2.2.1 e.2.2.2.2.2.2.1 e.2.2.2.2.2.2.2.1 e.2.2.2.2.2.2.2.2 = true := by
  unfold zOp at ho
  have h1 := List.mem_of_find?_eq_some ho
  have h2 := List.find?_some ho
  have h2 : e.1 = pc := Nat.eq_of_beq_eq_true h2
  have h3 := h e h1
  unfold zOk at h3
  rw [Bool.and_eq_true, decide_eq_true_eq, h2] at h3
  exact ⟨h2, h3.1, h3.2⟩
theorem zExec_ok {p : Program} {l : Launch} {e : Env} {R : Room} {s : State} {m : MethodId} {args : Array Value} {below : List Frame} {meth : Method} {c : Code} {cells slots : Nat} {Q : State → Prop} {sc : Int32 × (Int32 → Int32)} {F : zCF} {y d b bs : Nat} {D : va_G} {cs : Nat → ClassId} {A : Nat → Prop} {H0 : Heap} (C : zCx p l R s m args c cells slots sc F y d b bs D cs A H0) (hY : ∀ q, 1 ≤ q → q < 184 → zYok q = true) (hchk : zChk y) :
    ∀ (n pc : Nat) (ls st : List Value) (f : zF) (a : zA) (j : zJ) (lsA : Array Slot) (H : Heap) (locs : List Loc) (r : zR), zExec sc F y n (pc, ls, st, f, a, j) = some r → va_P D zvCl (zW b cs f a j) H → va_S A H0 H locs → zLoc b bs y lsA ls →
      (∀ (pc9 : Nat) (ls9 st9 : List Value) (lsB : Array Slot) (H1 : Heap) (locs1 : List Loc) (f9 : zF) (a9 : zA) (j9 : zJ), zStep sc F y (pc9, ls9, st9, f9, a9, j9) = some (.inl r) → va_P D zvCl (zW b cs f9 a9 j9) H1 → va_S A H0 H1 locs1 → W p l e R s m args below meth c H1 locs1 cells slots Q (F0 m pc9 lsB (st9.map (zV b bs)))) →
      W p l e R s m args below meth c H locs cells slots Q (F0 m pc lsA (st.map (zV b bs))) := by
  intro n
  induction n with
  | zero => intro pc ls st f a j lsA H locs r h; simp [zExec] at h
  | succ n ih =>
    intro pc ls st f a j lsA H locs r h hP hS hl kk
    unfold zExec at h
    cases hs : zStep sc F y (pc, ls, st, f, a, j) with
    | none => rw [hs] at h; cases h
    | some x =>
      rw [hs] at h
      cases x with
      | inl q =>
        cases h
        exact kk pc ls st lsA H locs f a j hs hP hS
      | inr S' =>
        obtain ⟨pc', ls', st', f', a', j'⟩ := S'
        dsimp only [zStep] at hs
        cases ho : zOp y pc with
        | none => rw [ho] at hs; cases hs
        | some e9 =>
          rw [ho] at hs
          obtain ⟨q0, ins, len, r1, r2, r3, vi, vl, sw⟩ := e9
          obtain ⟨-, hd, hk⟩ := zOp_ok hchk ho
          exact zIns_ok C hY hd hk hP hS hl hs (fun H1 locs1 lsA1 hP1 hS1 hl1 => ih pc' ls' st' f' a' j' lsA1 H1 locs1 r h hP1 hS1 hl1 kk)
theorem zMet_ofW {l : Launch} {y : MethodName} {ws ws' : List Cond} {rm : Room} {Pc : Array Value → State → Prop} {Qc : Array Value → State → Outcome → State → Prop} {mc ms : Nat} {free : Addr → Prop} {cc : ByteArray} {maxL : Nat} {ret : Option FieldType}
    (hy : plainFor y = true) (hw : ws = Cond.code y cc maxL ret :: ws')
    (body : ∀ p e s m args below meth c s₁, BodyLoose p l y (headSpec ws rm) cc maxL ret e s m args below meth c s₁ → c.maxLocals = maxL → Pc args s →
      W p l e (headSpec ws rm).room s m args below meth c s.heap [] 0 0 (MQ below Qc args s mc ms free) (entryFrame m args maxL)) : Met l y ws rm Pc Qc mc ms free := by
  refine MetFree.of_bodySF (code := cc) (maxLocals := maxL) (ret := ret) hy ?_ ?_
  · intro args s m h hn
    obtain ⟨meth, c, h1, h2, h3, h4, h5, h6, -, -⟩ := Cond.code_spec hn (atoms_spec (ws := ws) h _ (by rw [hw]; exact List.mem_cons_self))
    exact ⟨meth, c, h1, h2, h3, h4, h5, h6⟩
  · intro p e s m args below meth c s₁ B hml hP _
    have hh0 : s₁.heap = s.heap := by rw [B.state]; rfl
    obtain ⟨t, a1, o, b1, b2, b3⟩ := body p e s m args below meth c s₁ B hml hP s₁ hh0 (Stand.of_body B)
    exact ⟨t, o, a1, b1, b2, ⟨b3.1, b3.2⟩⟩
theorem zLgB_use {lg : List Nat} : ∀ (vs : List Value) (i k : Nat) (v : Value), zLgB lg i vs = true → vs[k]? = some v → v.category = 2 → i + k ∈ lg
  | [], i, k, v, _, h, _ => by simp at h
  | u :: r, i, k, v, hb, h, hc => by
    unfold zLgB at hb
    rw [Bool.and_eq_true] at hb
    cases k with
    | zero =>
      cases h
      have h1 := hb.1
      rw [hc] at h1
      rw [show Nat.beq 2 2 = true from rfl] at h1
      simp only [Bool.not_true, Bool.false_or, List.any_eq_true] at h1
      obtain ⟨q, hq, e⟩ := h1
      rw [Nat.add_zero, Nat.eq_of_beq_eq_true e]
      exact hq
    | succ k =>
      have h1 := zLgB_use r (i + 1) k v hb.2 h hc
      rw [show i + (k + 1) = i + 1 + k by omega]
      exact h1
set_option maxHeartbeats 4000000 in
set_option maxRecDepth 100000 in
theorem zRet_ok {p : Program} {l : Launch} {e : Env} {R : Room} {s : State} {m : MethodId} {args : Array Value} {below : List Frame} {meth : Method} {c : Code} {cells slots : Nat} {sc : Int32 × (Int32 → Int32)} {F : zCF} {y b bs : Nat} {D : va_G} {cs : Nat → ClassId} (hx : p.tables.exec = Jvm.exec) (hb : c.code = zCo y) (hr : meth.sig.returnType = zRt y) (hlocks : meth.locks = false) (hchk : zChk y)
    {pc : Nat} {ls st : List Value} {lsB : Array Slot} {H1 : Heap} {locs1 : List Loc} {f : zF} {a : zA} {j : zJ} {r : zR} (hs : zStep sc F y (pc, ls, st, f, a, j) = some (.inl r)) (hP : va_P D zvCl (zW b cs f a j) H1) (hS : va_S (zA0 b) s.heap H1 locs1) :
    W p l e R s m args below meth c H1 locs1 cells slots (MQ below (zQc b bs D cs r.1 r.2.1 r.2.2.1 r.2.2.2) args s cells slots (zA0 b)) (F0 m pc lsB (st.map (zV b bs))) := by
  dsimp only [zStep] at hs
  cases ho : zOp y pc with
  | none => rw [ho] at hs; cases hs
  | some e9 =>
    rw [ho] at hs
    obtain ⟨q0, ins, len, r1, r2, r3, vi, vl, sw⟩ := e9
    obtain ⟨-, hd, hk⟩ := zOp_ok hchk ho
    dsimp only at hd hk hs
    cases ins with
    | ireturn =>
      simp only [zOkI, Bool.and_eq_true, Nat.beq_eq] at hk
      obtain ⟨rfl, hk⟩ := hk
      dsimp only [zIns] at hs
      split at hs
      · rename_i x
        split at hs
        · rename_i hz
          cases hs
          cases hzz : zYz y with
          | true =>
            rw [hzz, if_pos rfl] at hk
            have hk := of_decide_eq_true hk
            rw [hk] at hr
            refine W.zret (ty := .boolean) hx hb hr ?_ (fun t ht hW => ⟨⟨rfl, by rw [ht]; exact hP⟩, hS.F ht⟩) hS.2.2 hd
            rcases hz hzz with rfl | rfl <;> rfl
          | false =>
            rw [hzz, if_neg (by decide)] at hk
            have hk := of_decide_eq_true hk
            rw [hk] at hr
            exact W.iret hx hb hr (fun t ht hW => ⟨⟨rfl, by rw [ht]; exact hP⟩, hS.F ht⟩) hS.2.2 hd
        · cases hs
      · cases hs
    | lreturn =>
      simp only [zOkI, Bool.and_eq_true, decide_eq_true_eq, Nat.beq_eq] at hk
      obtain ⟨rfl, hk⟩ := hk
      rw [hk] at hr
      dsimp only [zIns] at hs
      split at hs
      · cases hs
        exact W.lret hx hb hr (fun t ht hW => ⟨⟨rfl, by rw [ht]; exact hP⟩, hS.F ht⟩) hS.2.2 hd
      · cases hs
    | areturn =>
      simp only [zOkI, Bool.and_eq_true, Bool.or_eq_true, decide_eq_true_eq, Nat.beq_eq] at hk
      obtain ⟨rfl, hk⟩ := hk
      have hro : ∃ rt, meth.sig.returnType = some rt ∧ ∃ n, rt = .object n := by
        rcases hk with hk | hk
        · exact ⟨_, by rw [hr, hk], _, rfl⟩
        · exact ⟨_, by rw [hr, hk], _, rfl⟩
      obtain ⟨rt, hr9, hrt⟩ := hro
      dsimp only [zIns] at hs
      split at hs
      · rename_i k9
        cases hs
        exact W.aret (v := zV b bs (.ref k9)) hx hb hr9 (Or.inl hrt) (zV_ref b bs k9) (fun t ht hW => ⟨⟨rfl, by rw [ht]; exact hP⟩, hS.F ht⟩) hS.2.2 hd
      · cases hs
    | return_ =>
      simp only [zOkI, Bool.and_eq_true, decide_eq_true_eq, Nat.beq_eq] at hk
      obtain ⟨rfl, hk⟩ := hk
      rw [hk] at hr
      dsimp only [zIns] at hs
      split at hs
      · cases hs
        exact W.vret hx hb hr (fun t ht hW => ⟨⟨rfl, by rw [ht]; exact hP⟩, hS.F ht⟩) hS.2.2 hd
      · cases hs
    | ifCond c9 o9 =>
      exfalso
      dsimp only [zIns, zGo] at hs
      split at hs
      · cases c9 <;> cases hs
      · cases hs
    | if_icmp c9 o9 =>
      exfalso
      dsimp only [zIns, zGo] at hs
      split at hs
      · cases c9 <;> cases hs
      · cases hs
    | _ =>
      exfalso
      first
        | (cases hs; done)
        | (dsimp only [zIns, zGo] at hs; cases hs; done)
        | (dsimp only [zIns, zGo] at hs; split at hs <;> cases hs; done)
        | (dsimp only [zIns, zGo] at hs; (repeat' split at hs) <;> cases hs; done)
theorem cf_ok {sc : Int32 × (Int32 → Int32)} (l : Launch) (b bs : Nat) (D : va_G) (cs : Nat → ClassId) (hY : ∀ q, 1 ≤ q → q < 184 → zYok q = true) (hC : ∀ q, 1 ≤ q → q < 184 → zChk q) : ∀ (d y : Nat) (vs : List Value) (f : zF) (a : zA) (j : zJ) (r : zR), cf sc d y vs f a j = some r → 1 ≤ y → y < 184 → zMet l b bs D cs d y vs f a j r
  | 0, y, vs, f, a, j, r, h, _, _ => by cases h
  | d + 1, y, vs, f, a, j, r, h, h1, h2 => by
    unfold cf at h
    split at h
    · rename_i hfit
      unfold zFitB at hfit
      rw [Bool.and_eq_true] at hfit
      obtain ⟨hf1, hf2⟩ := hfit
      obtain ⟨n, hn⟩ := zRun_spec.mp h
      refine zMet_ofW (zYok_use (hY y h1 h2)).2.2.2.2.2.1 rfl ?_
      intro p e s m args below meth c s₁ B hml hv
      obtain ⟨rfl, hP, hK, hN⟩ := hv
      have hts := atoms_spec (ws := zWs y) B.pre
      have hown : s.vm.findClass (zY y).cls = some m.cls := findClass_of_methodNamed B.named
      have C : zCx p l (zRm (d + 1)) s m (vs.map (zV b bs)).toArray c 0 0 sc (cf sc d) y d b bs D cs (zA0 b) s.heap :=
        ⟨B.exec, B.bytes, hml, hown, fun w hw => hts w (List.mem_cons_of_mem _ hw), hK, hN, fun y' vs' f' a' j' r' h' g1 g2 => cf_ok l b bs D cs hY hC d y' vs' f' a' j' r' h' g1 g2, ⟨Nat.le_refl _, Nat.le_of_eq (by show 37 * d + 37 = 37 * (d + 1); omega), Nat.zero_le _, Nat.zero_le _⟩, fun _ q => q, fun q => absurd q (by omega)⟩
      rw [lg_entry_eq]
      exact zExec_ok C hY (hC y h1 h2) n 0 (zEnt (zMx y) vs) [] f a j _ s.heap [] r hn hP va_S.rf (zLoc_ent (Nat.le_of_ble_eq_true hf1) (fun k v hk hc => by have := zLgB_use _ 0 k v hf2 hk hc; rwa [Nat.zero_add] at this))
        (fun pc9 ls9 st9 lsB H1 locs1 f9 a9 j9 hs9 hP9 hS9 => zRet_ok B.exec B.bytes B.returns B.notSynchronized (hC y h1 h2) hs9 hP9 hS9)
    · cases h
