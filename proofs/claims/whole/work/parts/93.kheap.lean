/-! ===== the list of cells on the heap ===== -/
def kE (b bs : Nat) (cs : Nat → ClassId) : kC → va_E
  | .inl (ci, fs) => .inr (ci, fs.map (zV b bs))
  | .inr (.inl (kd, n, g)) => .inl (cs kd, n, .inl g)
  | .inr (.inr (.inl n)) => .inl (cs 22, n, .inr (.inl (fun _ => 0)))
  | .inr (.inr (.inr (kd, n, g))) => .inl (cs kd, n, .inr (.inr (.inr (.inr (fun i => (g i).map (fun k => b + k))))))
def kP (b bs : Nat) (D : va_G) (cs : Nat → ClassId) (X : List kC) (H : Heap) : Prop :=
  (H.size = b + X.length ∧ X.length ≤ 900) ∧ ∀ (k : Nat) (x : kC), X[k]? = some x → va_at D zvCl (b + k, kE b bs cs x) H
def kA (b : Nat) : Nat → Prop := fun q => b ≤ q
def kAO (U : State) : Prop := (Cond.arrayOver (.array .int)).before #[] U = true
theorem kAO.of {A : Array Value} {U : State} (h : (Cond.arrayOver (.array .int)).before A U = true) : kAO U := h
theorem kAO.use {A : Array Value} {U : State} (h : kAO U) : (Cond.arrayOver (.array .int)).before A U = true := h
theorem kAO.moved {u U : State} (hvm : u.vm.Alike U.vm) (h : kAO u) : kAO U := by
  unfold kAO Cond.before Cond.holds at h ⊢
  simp only [Cond.value, beq_iff_eq, Option.bind_eq_some_iff, Option.map_eq_some_iff] at h ⊢
  obtain ⟨comp, h1, c, h2, k, h3, h4⟩ := h
  obtain ⟨k', hk', he⟩ := hvm.2.2 _ _ h3
  have hb : U.vm.bare = u.vm.bare := by first | exact hvm.bare_eq | exact hvm.bare_eq.symm
  have e3 := (va_idx_bare U.vm comp).symm.trans ((congrArg (fun V : Vm => V.classes.findIdx? _) hb).trans (va_idx_bare u.vm comp))
  have hi := e3.trans h2
  refine ⟨comp, by rw [hvm.findClass]; exact h1, c, hi, k', hk', ?_⟩
  rw [he, hvm.findClass]
  exact h4
section ZK
variable {b bs : Nat} {D : va_G} {cs : Nat → ClassId} {X L : List kC} {H H1 : Heap} {k : Nat} {x : kC}
theorem kP.lt (h : kP b bs D cs X H) (hk : X[k]? = some x) : k < X.length ∧ zV b bs (.ref k) = .ref (b + k) := by
  have hl := (List.getElem?_eq_some_iff.mp hk).1
  refine ⟨hl, ?_⟩
  have := h.1.2
  show (if k = 998 then Value.null else .ref (zAd b bs k)) = _
  rw [if_neg (by omega)]
  unfold zAd
  rw [if_neg (by omega)]
theorem kP.new (h : kP b bs D cs X H) (hw : X.length ≤ 900) : zV b bs (.ref X.length) = .ref H.size := by
  show (if X.length = 998 then Value.null else .ref (zAd b bs X.length)) = _
  rw [if_neg (by omega)]
  unfold zAd
  rw [if_neg (by omega), h.1.1]
theorem kP.set (h : kP b bs D cs X H) (hk : X[k]? = some x) {x' : kC} (hz : H1.size = H.size) (ho : ∀ q : Nat, q ≠ b + k → H1[q]? = H[q]?) (ha : va_at D zvCl (b + k, kE b bs cs x') H1) : kP b bs D cs (X.set k x') H1 := by
  have hl := (List.getElem?_eq_some_iff.mp hk).1
  refine ⟨by rw [hz, List.length_set]; exact h.1, fun i y hi => ?_⟩
  by_cases e : i = k
  · subst e
    rw [List.getElem?_set_self hl] at hi
    cases hi
    exact ha
  · rw [List.getElem?_set_ne (Ne.symm e)] at hi
    exact (h.2 i y hi).kept (ho _ (by show b + i ≠ b + k; omega))
theorem kP.app (h : kP b bs D cs X H) (hz : H1.size = H.size + L.length) (hw : X.length + L.length ≤ 900) (ho : ∀ q : Nat, q < H.size → H1[q]? = H[q]?) (ha : ∀ (i : Nat) (y : kC), L[i]? = some y → va_at D zvCl (H.size + i, kE b bs cs y) H1) : kP b bs D cs (X ++ L) H1 := by
  refine ⟨⟨by rw [hz, h.1.1, List.length_append]; omega, by rw [List.length_append]; exact hw⟩, fun i y hi => ?_⟩
  by_cases e : i < X.length
  · rw [List.getElem?_append_left e] at hi
    exact (h.2 i y hi).kept (ho _ ((h.2 i y hi).lt))
  · rw [List.getElem?_append_right (by omega)] at hi
    have h1 := ha _ _ hi
    rw [h.1.1, show b + X.length + (i - X.length) = b + i by omega] at h1
    exact h1
theorem kP.app1 (h : kP b bs D cs X H) (hz : H1.size = H.size + 1) (hw : X.length + 1 ≤ 900) (ho : ∀ q : Nat, q < H.size → H1[q]? = H[q]?) (ha : va_at D zvCl (H.size, kE b bs cs x) H1) : kP b bs D cs (X ++ [x]) H1 := by
  refine h.app hz hw ho (fun i y hi => ?_)
  have hz : i < 1 := (List.getElem?_eq_some_iff.mp hi).1
  rw [show i = 0 by omega] at hi ⊢
  cases hi
  exact ha
theorem kS_app {A : Nat → Prop} {H0 : Heap} {locs : List Loc} (hS : va_S A H0 H locs) (hz : H.size ≤ H1.size) (ho : ∀ q : Nat, q < H.size → H1[q]? = H[q]?) : va_S A H0 H1 locs :=
  ⟨Nat.le_trans hS.1 hz, fun q h1 h2 => (ho q (Nat.lt_of_lt_of_le h1 hS.1)).trans (hS.2.1 q h1 h2), hS.2.2⟩
end ZK
theorem k_nz {ty : FieldType} {v : Value} {b bs : Nat} (h : narrow ty v = v) (g : fits ty v = true) : narrow ty (zV b bs v) = zV b bs v ∧ fits ty (zV b bs v) = true := by
  cases v with
  | ref k =>
    rcases zV_ref b bs k with e | ⟨x, e⟩ <;> rw [e] <;> cases ty <;> first | exact ⟨rfl, rfl⟩ | (exfalso; simp [fits] at g)
  | _ => exact ⟨h, g⟩
theorem k_def {ci : Nat} {b bs : Nat} (h : ci < 8) : ∀ j, j < (zC ci).2.2 → defaultValue (kTy ci j) = vp_V ((kDef ci).map (zV b bs)) j := by
  intro j hj
  unfold vp_V kDef
  rw [List.map_map, List.getD_eq_getElem?_getD, List.getElem?_map, List.getElem?_range hj]
  show _ = zV b bs (defaultValue (kTy ci j))
  cases kTy ci j <;> rfl
section ZKP
variable {p : Program} {l : Launch} {e : Env} {R : Room} {s : State} {m : MethodId} {args : Array Value} {below : List Frame} {meth : Method} {c : Code} {H : Heap} {locs : List Loc} {cells slots : Nat} {Q : State → Prop}
variable {b bs : Nat} {D : va_G} {cs : Nat → ClassId} {H0 : Heap} {X : List kC} {cc : ByteArray} {pc : Nat} {ls : Array Slot} {rest : List Value} {k : Nat} {own : String}
theorem k_put (hx : p.tables.exec = Jvm.exec) (hb : c.code = cc) (hts : ∀ w ∈ zTab, w.before args s = true) (hown : s.vm.findClass own = some m.cls) (hK : va_K D zvCl (zTy cs) s) (hP : kP b bs D cs X H) (hS : va_S (kA b) H0 H locs)
    {ci i r2 : Nat} {fs : List Value} {v : Value} (hk : X[k]? = some (.inl (ci, fs))) (hci : ci < 8) (hr : r2 < (zC ci).2.2) (hl : r2 < fs.length) (hlink : (Cond.fieldLink own i ((zC ci).2.1 r2).1 ((zC ci).2.1 r2).2.1 ((zC ci).2.1 r2).2.2.1).before args s = true)
    (hin : meth.name = "<init>") (hdecl : ((zC ci).2.1 r2).1 = own) (hn : narrow (kTy ci r2) v = v) (hf : fits (kTy ci r2) v = true) (hd : decode cc pc = .ok (.putfield i, 3))
    (kk : ∀ (H1 : Heap) (locs1 : List Loc), kP b bs D cs (X.set k (.inl (ci, fs.set r2 v))) H1 → va_S (kA b) H0 H1 locs1 → W p l e R s m args below meth c H1 locs1 cells slots Q (F0 m (pc + 3) ls rest)) :
    W p l e R s m args below meth c H locs cells slots Q (F0 m pc ls (zV b bs v :: .ref (b + k) :: rest)) := by
  have hap := va_apart (own := own) hts (zin_all hci) (kTy ci) (kTy_ok hci) (znm_all hci) hK (zvCl_at hci)
  obtain ⟨r, h1, cell, q1, q2, q3, q4⟩ := hP.2 k _ hk
  have hr9 : r = ((zC ci).1, (zC ci).2.1, (zC ci).2.2) := Option.some.inj (h1.symm.trans (zvCl_at hci))
  subst hr9
  obtain ⟨hS9, hfc, kC0, hkC, hkind⟩ := hK.1 ci _ (zvCl_at hci)
  obtain ⟨cf, kf, fi, fd, hi, hsl⟩ := hS9 r2 hr
  have hlay := hts _ (zin_all hci _ (u_in_lay hr))
  have hst := (u_facts hfc hkC (u_lays hts (zin_all hci) hr) hi).1
  obtain ⟨hn', hf'⟩ := k_nz (b := b) (bs := bs) hn hf
  have hty := kTy_ok hci r2 hr
  have fin : ∀ H1 : Heap, H1[b + k]? = some (cell.setSlot fd.slot (zV b bs v)) → H1.size = H.size → (∀ q, q ≠ b + k → H1[q]? = H[q]?) → kP b bs D cs (X.set k (.inl (ci, fs.set r2 v))) H1 := by
    intro H1 e1 e2 e3
    refine hP.set hk e2 e3 ⟨_, zvCl_at hci, t_OB.to (V := updV (vp_V (fs.map (zV b bs))) r2 (zV b bs v)) ⟨_, e1, q2, q3, ?_⟩ (fun j _ => ?_)⟩
    · rw [hsl]
      exact t_set q4 hap hr _
    · show updV (vp_V (fs.map (zV b bs))) r2 (zV b bs v) j = vp_V ((fs.set r2 v).map (zV b bs)) j
      rw [List.map_set]
      exact vp_updV_set (by rw [List.length_map]; exact hl) _ j
  have hsz : fd.slot < cell.slots.size := by rw [hsl]; exact k2_hasslot (q4 r2 hr)
  unfold u_lay at hlay
  cases hfin : ((zC ci).2.1 r2).2.2.2 with
  | true =>
    rw [if_pos hfin] at hlay
    have hcf : m.cls = cf := by
      obtain ⟨_, _, c', _, _, _, -, -, hf9, -, -, -, hown2, -⟩ := Cond.laysFinal_spec hlay
      have e1 : c' = cf := by have := hi.symm.trans hf9; simp at this; exact this.1.symm
      rw [hdecl] at hown2
      rw [← e1]
      exact Option.some.inj (hown.symm.trans hown2)
    have h6 := u_fits hfc hkC hkind (Or.inr hlay) hi hty hn' hf'
    exact W.putFinK hx hb hown hlink hi hst hcf hin (by rw [q2]; exact h6) q1 q3 hsz rfl rfl hd fun H1 e1 e2 e3 => kk H1 _ (fin H1 e1 e2 e3) (hS.put e2 e3 (Nat.le_add_right b k))
  | false =>
    rw [if_neg (by rw [hfin]; decide)] at hlay
    have h6 := u_store hfc hkC hkind hlay hi hty hn' hf'
    exact W.putK hx hb (f := fd) ⟨hown, hlink, ⟨_, _, _, hi⟩, hst⟩ (by rw [q2]; exact h6) q1 q3 hsz rfl rfl hd fun H1 e1 e2 e3 => kk H1 _ (fin H1 e1 e2 e3) (hS.put e2 e3 (Nat.le_add_right b k))
end ZKP
