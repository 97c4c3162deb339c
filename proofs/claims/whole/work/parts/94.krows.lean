/-! ===== the rows of the constructors' machine ===== -/
section ZKR
variable {p : Program} {l : Launch} {e : Env} {R : Room} {s : State} {m : MethodId} {args : Array Value} {below : List Frame} {meth : Method} {c : Code} {H : Heap} {locs : List Loc} {cells slots : Nat} {Q : State → Prop}
variable {b bs : Nat} {D : va_G} {cs : Nat → ClassId} {H0 : Heap} {X : List kC} {cc : ByteArray} {pc : Nat} {ls : Array Slot} {rest : List Value} {k : Nat} {own : String}
theorem k_iast (hx : p.tables.exec = Jvm.exec) (hb : c.code = cc) (hK : va_K D zvCl (zTy cs) s) (hP : kP b bs D cs X H) (hS : va_S (kA b) H0 H locs) {N : Nat} {g : Nat → Int32} (hk : X[k]? = some (.inr (.inl (21, N, g)))) {i x : Int32} (hin : ¬ (i < 0 ∨ N ≤ i.toNatClampNeg)) (hd : decode cc pc = .ok (.iastore, 1))
    (kk : ∀ (H1 : Heap) (locs1 : List Loc), kP b bs D cs (X.set k (.inr (.inl (21, N, upd g i.toNatClampNeg x)))) H1 → va_S (kA b) H0 H1 locs1 → W p l e R s m args below meth c H1 locs1 cells slots Q (F0 m (pc + 1) ls rest)) :
    W p l e R s m args below meth c H locs cells slots Q (F0 m pc ls (.int x :: .int i :: .ref (b + k) :: rest)) := by
  refine W.iast hx hb (hP.2 k _ hk) ((hK.2 1 _ rfl).1 N (fun j => .int (g j))) (fun q => by cases q) (by show ¬ (i < 0 ∨ (arrV _ _ _).slots.size ≤ _); rw [arrV_size]; exact hin) rfl rfl hd fun H1 e1 z oq => ?_
  refine kk H1 _ (hP.set hk z oq ?_) (hS.put z oq (Nat.le_add_right b k))
  show H1[b + k]? = some (vp_cell _ _)
  rw [e1]
  rw [vp_cell_i, vp_cell_i, arrV_store]
  congr 2
  funext q
  by_cases hq : q = i.toNatClampNeg
  · subst hq
    simp [updV, upd]
  · simp [updV, upd, hq]
theorem k_aast (hx : p.tables.exec = Jvm.exec) (hb : c.code = cc) (hK : va_K D zvCl (zTy cs) s) (hP : kP b bs D cs X H) (hS : va_S (kA b) H0 H locs) {N v : Nat} {g : Nat → Option Nat} {vs : List Value} (hk : X[k]? = some (.inr (.inr (.inr (23, N, g))))) (hv : X[v]? = some (.inl (3, vs))) {i : Int32} (hin : ¬ (i < 0 ∨ N ≤ i.toNatClampNeg)) (hd : decode cc pc = .ok (.aastore, 1))
    (kk : ∀ (H1 : Heap) (locs1 : List Loc), kP b bs D cs (X.set k (.inr (.inr (.inr (23, N, va_up g i.toNatClampNeg (some v)))))) H1 → va_S (kA b) H0 H1 locs1 → W p l e R s m args below meth c H1 locs1 cells slots Q (F0 m (pc + 1) ls rest)) :
    W p l e R s m args below meth c H locs cells slots Q (F0 m pc ls (.ref (b + v) :: .int i :: .ref (b + k) :: rest)) := by
  have hlt : i.toNatClampNeg < N := Nat.not_le.mp fun q => hin (Or.inr q)
  have h0 : ¬ i < 0 := fun q => hin (Or.inl q)
  obtain ⟨r', hr', cellV, g1, g2, g3, -⟩ := hP.2 v _ hv
  have hcls := (hK.1 3 _ (zvCl_at (by omega))).2
  obtain ⟨kA9, comp, k1, k2, k3, -⟩ := (hK.2 3 _ rfl).2
  have hcomp : comp = D.1 3 := Option.some.inj (k3.symm.trans hcls.1)
  subst hcomp
  obtain ⟨kC9, hkC, -⟩ := hcls.2
  refine W.aast hx hb (hP.2 k _ hk) (fun q h => by cases h) (fun h => by cases h) k1 k2 rfl hkC ⟨h0, by show _ < (arrV _ _ _).slots.size; rw [arrV_size]; exact hlt⟩ g1 (fun q h => by rw [g3] at h; cases h) (by rw [g2]; exact hkC) (by rw [g2]; exact va_assign hcls) rfl rfl hd fun H1 e1 z oq => ?_
  refine kk H1 _ (hP.set hk z oq ?_) (hS.put z oq (Nat.le_add_right b k))
  show H1[b + k]? = some (vp_cell _ _)
  rw [e1]
  rw [vp_cell_q, vp_cell_q, arrV_store]
  congr 2
  funext q
  by_cases hq : q = i.toNatClampNeg
  · subst hq
    simp [updV, va_up, va_rf]
  · simp [updV, va_up, hq]
theorem k_new (hx : p.tables.exec = Jvm.exec) (hb : c.code = cc) (hts : ∀ w ∈ zTab, w.before args s = true) (hown : s.vm.findClass own = some m.cls) (hK : va_K D zvCl (zTy cs) s) (hP : kP b bs D cs X H) (hS : va_S (kA b) H0 H locs)
    {ci i : Nat} (hci : ci < 8) (hcl : (Cond.classLink own i (zC ci).1).before args s = true) (hinst : (Cond.instantiable (zC ci).1 (zC ci).2.2).before args s = true) (hini : (Cond.initialized (zC ci).1).before args s = true) (hcells : cells + 1 ≤ R.cells) (hslots : slots + (zC ci).2.2 ≤ R.slots) (hw : X.length + 1 ≤ 900) (hd : decode cc pc = .ok (.new i, 3))
    (kk : ∀ H1 : Heap, kP b bs D cs (X ++ [.inl (ci, kDef ci)]) H1 → va_S (kA b) H0 H1 locs → W p l e R s m args below meth c H1 locs (cells + 1) (slots + (zC ci).2.2) Q (F0 m (pc + 3) ls (.ref H.size :: rest))) :
    W p l e R s m args below meth c H locs cells slots Q (F0 m pc ls rest) := by
  have hKn := hK.1 ci _ (zvCl_at hci)
  refine W.newcK hx hb hown hcl hinst hini rfl hd hcells hslots hKn.2.1 rfl fun H1 kC9 hkC e1 z1 o1 => ?_
  exact kk H1 (hP.app1 z1 hw o1 ⟨_, zvCl_at hci, (u_born (kTy ci) hts (zin_all hci) hKn hkC e1 (kTy_ok hci)).to (k_def hci)⟩) (kS_app hS (by omega) o1)
theorem k_newa (hx : p.tables.exec = Jvm.exec) (hb : c.code = cc) (hK : va_K D zvCl (zTy cs) s) (hP : kP b bs D cs X H) (hS : va_S (kA b) H0 H locs) {t : ArrayType} {r1 : Nat} (harr : (Cond.arrayClass (newarray.typeOf t)).before args s = true) (ht : (newarray.typeOf t = .byte ∧ r1 = 20) ∨ (newarray.typeOf t = .int ∧ r1 = 21) ∨ (newarray.typeOf t = .long ∧ r1 = 22))
    {x : Int32} (hn : ¬ x < 0) (h9 : x.toNatClampNeg ≤ 1000) (hcells : cells + 1 ≤ R.cells) (hslots : slots + x.toNatClampNeg ≤ R.slots) (hw : X.length + 1 ≤ 900) (hd : decode cc pc = .ok (.newarray t, 2))
    (kk : ∀ H1 : Heap, kP b bs D cs (X ++ [if r1 = 22 then .inr (.inr (.inl x.toNatClampNeg)) else .inr (.inl (r1, x.toNatClampNeg, fun _ => 0))]) H1 → va_S (kA b) H0 H1 locs → W p l e R s m args below meth c H1 locs (cells + 1) (slots + x.toNatClampNeg) Q (F0 m (pc + 2) ls (.ref H.size :: rest))) :
    W p l e R s m args below meth c H locs cells slots Q (F0 m pc ls (.int x :: rest)) := by
  refine va_newaK hx hb harr rfl hd rfl hn rfl (by rcases ht with ⟨q, -⟩ | ⟨q, -⟩ | ⟨q, -⟩ <;> rw [q] <;> (show _ * _ ≤ _) <;> simp only [componentBytes] <;> omega) hcells hslots rfl fun H1 cA e1 z1 o1 hAr hNm => ?_
  refine kk H1 (hP.app1 z1 hw o1 ?_) (kS_app hS (by omega) o1)
  rcases ht with ⟨q, rfl⟩ | ⟨q, rfl⟩ | ⟨q, rfl⟩
  · rw [q] at e1 hNm
    have ec : some (cs 20) = some cA := ((hK.2 0 _ rfl).2 : s.vm.findClass _ = some (cs 20)).symm.trans hNm
    rw [if_neg (by decide)]
    show H1[H.size]? = some (vp_cell (cs 20) (x.toNatClampNeg, .inl (fun _ => 0)))
    rw [Option.some.inj ec]
    exact e1
  · rw [q] at e1 hNm
    have ec : some (cs 21) = some cA := ((hK.2 1 _ rfl).2 : s.vm.findClass _ = some (cs 21)).symm.trans hNm
    rw [if_neg (by decide)]
    show H1[H.size]? = some (vp_cell (cs 21) (x.toNatClampNeg, .inl (fun _ => 0)))
    rw [Option.some.inj ec]
    exact e1
  · rw [q] at e1 hNm
    have ec : some (cs 22) = some cA := ((hK.2 2 _ rfl).2 : s.vm.findClass _ = some (cs 22)).symm.trans hNm
    rw [if_pos rfl]
    show H1[H.size]? = some (vp_cell (cs 22) (x.toNatClampNeg, .inr (.inl (fun _ => 0))))
    rw [Option.some.inj ec]
    exact e1
theorem k_anew (hx : p.tables.exec = Jvm.exec) (hb : c.code = cc) (hown : s.vm.findClass own = some m.cls) (hK : va_K D zvCl (zTy cs) s) (hO : va_AO RX3 s) (hP : kP b bs D cs X H) (hS : va_S (kA b) H0 H locs) {i : Nat} (hcl : (Cond.classLink own i RX3).before args s = true)
    {x : Int32} (hn : ¬ x < 0) (h9 : x.toNatClampNeg ≤ 1000) (hcells : cells + 1 ≤ R.cells) (hslots : slots + x.toNatClampNeg ≤ R.slots) (hw : X.length + 1 ≤ 900) (hd : decode cc pc = .ok (.anewarray i, 3))
    (kk : ∀ H1 : Heap, kP b bs D cs (X ++ [.inr (.inr (.inr (23, x.toNatClampNeg, fun _ => none)))]) H1 → va_S (kA b) H0 H1 locs → W p l e R s m args below meth c H1 locs (cells + 1) (slots + x.toNatClampNeg) Q (F0 m (pc + 3) ls (.ref H.size :: rest))) :
    W p l e R s m args below meth c H locs cells slots Q (F0 m pc ls (.int x :: rest)) := by
  refine W.anew hx hb hown hcl (va_AO.use hO) rfl hd rfl hn (by omega) hcells hslots fun cA kA9 comp f1 f2 f3 f4 => ?_
  generalize hH1 : H.push ({ cls := cA, slots := Array.replicate x.toNatClampNeg .null, vm := .none } : Cell) = H1
  have z1 : H1.size = H.size + 1 := by rw [← hH1, Array.size_push]
  have e1 : H1[H.size]? = some (arrV cA x.toNatClampNeg (fun _ => .null)) := by rw [← hH1, Array.getElem?_push_size, ← arrV_new]
  have o1 : ∀ q : Nat, q < H.size → H1[q]? = H[q]? := fun q hq => by rw [← hH1, Array.getElem?_push, if_neg (Nat.ne_of_lt hq)]
  obtain ⟨_, _, _, _, _, g4⟩ := (hK.2 3 _ rfl).2
  have ec : some (cs 23) = some cA := g4.symm.trans f1
  refine kk H1 (hP.app1 z1 hw o1 ?_) (kS_app hS (by omega) o1)
  show H1[H.size]? = some (vp_cell (cs 23) _)
  rw [Option.some.inj ec, vp_cell_q]
  exact e1
theorem k_mna (hx : p.tables.exec = Jvm.exec) (hb : c.code = cc) (hown : s.vm.findClass own = some m.cls) (hK : va_K D zvCl (zTy cs) s) (hO : kAO s) (hP : kP b bs D cs X H) (hS : va_S (kA b) H0 H locs) {i : Nat} (hcl : (Cond.classLink own i "[[I").before args s = true) (harr : (Cond.arrayClass .int).before args s = true)
    {x y : Int32} (hn : ¬ x < 0) (hm : ¬ y < 0) (h9 : x.toNatClampNeg ≤ 1000) (h8 : y.toNatClampNeg ≤ 1000) (hcells : cells + (1 + x.toNatClampNeg) ≤ R.cells) (hslots : slots + (x.toNatClampNeg + x.toNatClampNeg * y.toNatClampNeg) ≤ R.slots) (hw : X.length + (1 + x.toNatClampNeg) ≤ 900) (hd : decode cc pc = .ok (.multianewarray i 2, 4))
    (kk : ∀ H1 : Heap, kP b bs D cs (X ++ (.inr (.inr (.inr (24, x.toNatClampNeg, fun i => if i < x.toNatClampNeg then some (X.length + 1 + i) else none))) :: List.replicate x.toNatClampNeg (.inr (.inl (21, y.toNatClampNeg, fun _ => 0))))) H1 → va_S (kA b) H0 H1 locs → W p l e R s m args below meth c H1 locs (cells + 1 + x.toNatClampNeg) (slots + x.toNatClampNeg + x.toNatClampNeg * y.toNatClampNeg) Q (F0 m (pc + 4) ls (.ref H.size :: rest))) :
    W p l e R s m args below meth c H locs cells slots Q (F0 m pc ls (.int y :: .int x :: rest)) := by
  intro T hT Xs
  have hs : "[" ++ (FieldType.array .int).toString = "[[I" := by decide
  obtain ⟨vm₁, cA, comp, -, fA, fC, -, -, X', step⟩ := Xs.multianewarray2F hx (ty := .int) hown (by rw [hs]; exact hcl) (kAO.use hO) harr (g := F0 m pc ls (.int y :: .int x :: rest)) rfl (by rw [hb]; exact hd) rfl hn hm (by omega) (by show y.toNatClampNeg * 4 ≤ 536870912; omega) (by omega) rfl rfl hcells hslots
  have ec : some (cs 21) = some comp := ((hK.2 1 _ rfl).2 : s.vm.findClass _ = some (cs 21)).symm.trans fC
  have eA : some (cs 24) = some cA := ((hK.2 4 _ rfl).2 : s.vm.findClass _ = some (cs 24)).symm.trans fA
  cases ec
  cases eA
  generalize hF : Jvm.Free.Multi.fill (T.setVm vm₁) (cs 24) (cs 21) x.toNatClampNeg y.toNatClampNeg (defaultValue .int) x.toNatClampNeg = F at X' step
  have hTh : (T.setVm vm₁).heap = H := hT
  obtain ⟨f1, f2, -, -⟩ := Jvm.Free.Multi.fill_facts (T.setVm vm₁) (cs 24) (cs 21) x.toNatClampNeg y.toNatClampNeg (defaultValue .int) x.toNatClampNeg
  rw [hF, hTh] at f1 f2
  have hold : ∀ q : Nat, q < H.size → F.heap[q]? = H[q]? := fun q hq => by
    have h7 := Jvm.Free.Multi.fill_old (T.setVm vm₁) (cs 24) (cs 21) x.toNatClampNeg y.toNatClampNeg (defaultValue .int) (a := q) (by rw [hTh]; exact hq) x.toNatClampNeg
    rw [hF, hTh] at h7
    exact h7
  have hrow : ∀ j : Nat, j < x.toNatClampNeg → F.heap[H.size + 1 + j]? = some (vp_cell (cs 21) (y.toNatClampNeg, .inl (fun _ => 0))) := fun j hj => by
    have h7 := Jvm.Free.Multi.fill_inner (T.setVm vm₁) (cs 24) (cs 21) x.toNatClampNeg y.toNatClampNeg (defaultValue .int) x.toNatClampNeg j hj
    rw [hF, hTh] at h7
    rw [h7, vp_cell_i]
    exact congrArg some (arrV_new _ _ _)
  rw [k_outer] at f2
  have hb9 := hP.1.1
  have hPn : kP b bs D cs (X ++ (.inr (.inr (.inr (24, x.toNatClampNeg, fun i => if i < x.toNatClampNeg then some (X.length + 1 + i) else none))) :: List.replicate x.toNatClampNeg (.inr (.inl (21, y.toNatClampNeg, fun _ => 0))))) F.heap := by
    refine hP.app (by rw [f1, List.length_cons, List.length_replicate]; omega) (by rw [List.length_cons, List.length_replicate]; omega) hold (fun i z hi => ?_)
    cases i with
    | zero =>
      cases hi
      show F.heap[H.size]? = some (vp_cell (cs 24) (x.toNatClampNeg, .inr (.inr (.inr (.inr (fun i => (if i < x.toNatClampNeg then some (X.length + 1 + i) else none).map (fun k => b + k)))))))
      rw [f2, vp_cell_q]
      congr 2
      funext j
      by_cases h : j < x.toNatClampNeg
      · rw [if_pos h, if_pos h, hb9]
        show va_rf (some _) = va_rf (some _)
        congr 2
        show _ = b + (X.length + 1 + j)
        omega
      · rw [if_neg h, if_neg h]
        rfl
    | succ j =>
      rw [List.getElem?_cons_succ] at hi
      have hj : j < x.toNatClampNeg := by
        have h7 := (List.getElem?_eq_some_iff.mp hi).1
        rwa [List.length_replicate] at h7
      rw [List.getElem?_replicate, if_pos hj] at hi
      cases hi
      show F.heap[H.size + (j + 1)]? = some (vp_cell (cs 21) (y.toNatClampNeg, .inl (fun _ => 0)))
      rw [show H.size + (j + 1) = H.size + 1 + j by omega]
      exact hrow j hj
  obtain ⟨t, a1, b1⟩ := kk F.heap hPn (kS_app hS (by rw [f1]; omega) hold) F rfl X'
  refine ⟨t, step t ?_, b1⟩
  have e9 : T.heap.size = H.size := by rw [hT]
  rw [e9]
  exact a1
/-- what a constructor's call is met by -/
def kWs (n : Nat) : List Cond := Cond.code (kY n) (kCo n) (zMx (kYy n)) none :: zTab
def kRm (n : Nat) : Room := { frames := kD n, cells := kMc n, slots := kMs n, locals := 37 * kD n }
def kPc (b bs : Nat) (D : va_G) (cs : Nat → ClassId) (vs : List Value) (X : List kC) : Array Value → State → Prop := va_Pc (vs.map (zV b bs)) (fun U => kP b bs D cs X U.heap ∧ va_K D zvCl (zTy cs) U ∧ (∀ w ∈ zNest, va_Nw w U) ∧ va_AO RX3 U ∧ kAO U)
def kQc (b bs : Nat) (D : va_G) (cs : Nat → ClassId) (X : List kC) : Array Value → State → Outcome → State → Prop := fun _ st o t => (o = .returned none ∧ kP b bs D cs X t.heap) ∧ va_F (kA b) st t
def kMet (l : Launch) (b bs : Nat) (D : va_G) (cs : Nat → ClassId) (n : Nat) (vs : List Value) (X X' : List kC) : Prop := Met l (kY n) (kWs n) (kRm n) (kPc b bs D cs vs X) (kQc b bs D cs X') (kMc n) (kMs n) (kA b)
theorem kPc_blind {vs : List Value} : FrameBlind (kPc b bs D cs vs X) := by
  intro ar U g mk q
  obtain ⟨q0, qP, qK, qN, qO, qO2⟩ := q
  exact ⟨q0, qP, va_K.moved (u := U) (U := U.calling g mk ar) (Vm.Alike.refl U.vm) qK, fun w hw => zNest_same hw (qN w hw), va_AO.moved (u := U) (U := U.calling g mk ar) (Vm.Alike.refl U.vm) qO, kAO.moved (u := U) (U := U.calling g mk ar) (Vm.Alike.refl U.vm) qO2⟩
theorem k_call {mc ms : Nat} {X' : List kC} {st0 : List Value} {aa : Array Value} (hr : va_Run p l e R s m args below meth c H locs cells slots mc ms (F0 m pc ls st0) rest (kQc b bs D cs X' aa) (kA b)) (hS : va_S (kA b) H0 H locs)
    (kk : ∀ (H1 : Heap) (locs1 : List Loc), kP b bs D cs X' H1 → va_S (kA b) H0 H1 locs1 → W p l e R s m args below meth c H1 locs1 (cells + mc) (slots + ms) Q (F0 m (pc + 3) ls rest)) : W p l e R s m args below meth c H locs cells slots Q (F0 m pc ls st0) := by
  intro T hT Y
  obtain ⟨v, st₀, t, T', L, h0, Y', hL, e1, e2, ⟨⟨hv, hp⟩, hz, hk⟩, st⟩ := hr T hT Y
  cases hv
  rw [h0] at hz hk
  obtain ⟨t2, a1, b1⟩ := kk T'.heap (locs ++ L) (by rw [e1]; exact hp)
    ⟨Nat.le_trans hS.1 (by rw [e1]; exact hz), fun q h1 h2 => by rw [e1, hk q (Nat.lt_of_lt_of_le h1 hS.1) h2]; exact hS.2.1 q h1 h2, fun q hq => by
      rcases List.mem_append.mp hq with h | h
      · exact hS.2.2 q h
      · exact hL q h⟩ T' rfl Y'
  exact ⟨t2, st t2 a1, b1⟩
end ZKR
