/-! ===== the constructors' runs ===== -/
theorem kOp_ok {n pc : Nat} (hn : n < 9) {x : kN} (ho : kOp n pc = some x) : decode (kCo n) pc = .ok (x.2.1, x.2.2.1) ∧ kOkI n x.2.1 pc x.2.2.1 x.2.2.2.1 x.2.2.2.2.1 x.2.2.2.2.2.1 x.2.2.2.2.2.2 = true := by
  unfold kOp at ho
  have h1 := List.mem_of_find?_eq_some ho
  have h2 := List.find?_some ho
  have h2 : x.1 = pc := Nat.eq_of_beq_eq_true h2
  have h3 := kChk hn x h1
  unfold kOk at h3
  rw [Bool.and_eq_true, decide_eq_true_eq, h2] at h3
  exact h3
theorem kArg {vs : List Value} (h : (vs.all fun v => Nat.beq v.category 1) = true) : zArg vs = vs := by
  induction vs with
  | nil => rfl
  | cons u r ih =>
    rw [List.all_cons, Bool.and_eq_true] at h
    have h1 := Nat.eq_of_beq_eq_true h.1
    unfold zArg
    rw [if_neg (by omega), ih h.2]
theorem kIns_inl {G : Nat → List Value → List kC → Option (List kC)} {n : Nat} {ins : Instr} {nx r1 r2 : Nat} {vi : Int32} {ls st : List Value} {X X' : List kC} {cn sn : Nat} (h : kIns G n ins nx r1 r2 vi ls st X cn sn = some (.inl X')) : ins = .return_ ∧ st = [] ∧ X' = X ∧ cn ≤ kMc n ∧ sn ≤ kMs n := by
  cases ins with
  | return_ =>
    dsimp only [kIns] at h
    split at h
    · split at h
      · rename_i hc
        cases h
        exact ⟨rfl, rfl, rfl, hc.1, hc.2⟩
      · cases h
    · cases h
  | if_icmp c9 o9 =>
    exfalso
    cases c9 <;> first | (cases h; done) | (dsimp only [kIns, kGo] at h; (repeat' split at h) <;> cases h; done)
  | _ =>
    exfalso
    first
      | (cases h; done)
      | (dsimp only [kIns, kGo] at h; cases h; done)
      | (dsimp only [kIns, kGo] at h; (repeat' split at h) <;> cases h; done)
section ZKX
variable {p : Program} {l : Launch} {e : Env} {R : Room} {s : State} {m : MethodId} {args : Array Value} {below : List Frame} {meth : Method} {c : Code} {Q : State → Prop} {G : Nat → List Value → List kC → Option (List kC)} {n b bs : Nat} {D : va_G} {cs : Nat → ClassId} {H0 : Heap}
theorem kExec_ok (C : kCx p l R s m args meth c G n b bs D cs) (hr : meth.sig.returnType = none) (hlocks : meth.locks = false) : ∀ (q pc : Nat) (ls st : List Value) (X X' : List kC) (cells slots : Nat) (lsA : Array Slot) (H : Heap) (locs : List Loc),
    kExec G n q (pc, ls, st, X, cells, slots) = some X' → kP b bs D cs X H → va_S (kA b) s.heap H locs → zLoc b bs (kYy n) lsA ls →
    W p l e R s m args below meth c H locs cells slots (MQ below (kQc b bs D cs X') args s (kMc n) (kMs n) (kA b)) (F0 m pc lsA (st.map (zV b bs))) := by
  intro q
  induction q with
  | zero => intro pc ls st X X' cells slots lsA H locs h; cases h
  | succ q ih =>
    intro pc ls st X X' cells slots lsA H locs h hP hS hl
    unfold kExec at h
    cases hs : kStep G n (pc, ls, st, X, cells, slots) with
    | none => rw [hs] at h; cases h
    | some x =>
      rw [hs] at h
      dsimp only [kStep] at hs
      cases ho : kOp n pc with
      | none => rw [ho] at hs; cases hs
      | some e9 =>
        rw [ho] at hs
        obtain ⟨q0, ins, len, r1, r2, r3, vi⟩ := e9
        obtain ⟨hd, hk⟩ := kOp_ok C.1 ho
        cases x with
        | inl X9 =>
          cases h
          obtain ⟨h1, h2, h3, h4, h5⟩ := kIns_inl hs
          dsimp only at h1 hd hk
          subst h1 h2 h3
          have hlen : len = 1 := by simpa [kOkI, Nat.beq_eq] using hk
          subst hlen
          exact W.widen h4 h5 (W.vret C.2.1 C.2.2.1 hr (fun t ht hW => ⟨⟨rfl, by rw [ht]; exact hP⟩, hS.F ht⟩) hS.2.2 hd hlocks)
        | inr S' =>
          obtain ⟨pc', ls', st', Y, cells', slots'⟩ := S'
          exact kIns_ok C hd hk hP hS hl hs (fun H1 locs1 lsA1 hP1 hS1 hl1 => ih pc' ls' st' Y X' cells' slots' lsA1 H1 locs1 h hP1 hS1 hl1)
theorem kGoes_ok (C : kCx p l R s m args meth c G n b bs D cs) : ∀ (q pc : Nat) (ls st : List Value) (X : List kC) (cells slots pc' : Nat) (ls' st' : List Value) (X' : List kC) (cells' slots' : Nat) (lsA : Array Slot) (H : Heap) (locs : List Loc),
    kGoes G n q (pc, ls, st, X, cells, slots) = some (pc', ls', st', X', cells', slots') → kP b bs D cs X H → va_S (kA b) H0 H locs → zLoc b bs (kYy n) lsA ls →
    (∀ (H1 : Heap) (locs1 : List Loc) (lsA1 : Array Slot), kP b bs D cs X' H1 → va_S (kA b) H0 H1 locs1 → zLoc b bs (kYy n) lsA1 ls' → W p l e R s m args below meth c H1 locs1 cells' slots' Q (F0 m pc' lsA1 (st'.map (zV b bs)))) →
    W p l e R s m args below meth c H locs cells slots Q (F0 m pc lsA (st.map (zV b bs))) := by
  intro q
  induction q with
  | zero =>
    intro pc ls st X cells slots pc' ls' st' X' cells' slots' lsA H locs h hP hS hl kk
    cases h
    exact kk H locs lsA hP hS hl
  | succ q ih =>
    intro pc ls st X cells slots pc' ls' st' X' cells' slots' lsA H locs h hP hS hl kk
    unfold kGoes at h
    cases hs : kStep G n (pc, ls, st, X, cells, slots) with
    | none => rw [hs] at h; cases h
    | some x =>
      rw [hs] at h
      cases x with
      | inl X9 => cases h
      | inr S' =>
        dsimp only [kStep] at hs
        cases ho : kOp n pc with
        | none => rw [ho] at hs; cases hs
        | some e9 =>
          rw [ho] at hs
          obtain ⟨q0, ins, len, r1, r2, r3, vi⟩ := e9
          obtain ⟨hd, hk⟩ := kOp_ok C.1 ho
          obtain ⟨pc9, ls9, st9, X9, cells9, slots9⟩ := S'
          exact kIns_ok C hd hk hP hS hl hs (fun H1 locs1 lsA1 hP1 hS1 hl1 => ih pc9 ls9 st9 X9 cells9 slots9 pc' ls' st' X' cells' slots' lsA1 H1 locs1 h hP1 hS1 hl1 kk)
end ZKX
theorem kCf_ok (l : Launch) (b bs : Nat) (D : va_G) (cs : Nat → ClassId) : ∀ (d n : Nat) (vs : List Value) (X X' : List kC), kCf d n vs X = some X' → kMet l b bs D cs n vs X X'
  | 0, n, vs, X, X', h => by cases h
  | d + 1, n, vs, X, X', h => by
    unfold kCf at h
    split at h
    · rename_i hc
      obtain ⟨h1, h2, h3, h4⟩ := hc
      obtain ⟨y1, y2, y3, y4, y5, y6, y7, y8, y9⟩ := kYok_use (kYok_all n h2 h1)
      refine zMet_ofW y7 rfl ?_
      intro p e s m args below meth c s₁ B hml hv
      obtain ⟨rfl, hP, hK, hN, hO, hO2⟩ := hv
      have hts := atoms_spec (ws := kWs n) B.pre
      have hown : s.vm.findClass (kY n).cls = some m.cls := findClass_of_methodNamed B.named
      have hnm : meth.name = "<init>" := ((name_of_methodNamed B.named B.method).1).trans y8
      have C : kCx p l (kRm n) s m (vs.map (zV b bs)).toArray meth c (kCf d) n b bs D cs :=
        ⟨h2, B.exec, B.bytes, hml, hown, fun _ => hnm, fun w hw => hts w (List.mem_cons_of_mem _ hw), hK, hN, ⟨hO, hO2⟩, fun n' vs' Y Y' h' => kCf_ok l b bs D cs d n' vs' Y Y' h', ⟨Nat.le_refl _, Nat.le_refl _, Nat.le_refl _, Nat.le_refl _⟩⟩
      rw [lg_entry_eq]
      have ha := kArg h4
      exact kExec_ok C B.returns B.notSynchronized 300 0 (zEnt (zMx (kYy n)) vs) [] X X' 0 0 _ s.heap [] h hP va_S.rf (zLoc_ent (by rw [ha, h3]; exact y9) (fun k v hk hc => by
        rw [ha] at hk
        have h5 := List.all_eq_true.mp h4 v (List.mem_of_getElem? hk)
        have h6 := Nat.eq_of_beq_eq_true h5
        omega))
    · cases h
