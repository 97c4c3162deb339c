/-! ===== THE LAW FROM ITS ENTRY ===== -/
theorem k_cut {b bs : Nat} : ([Value.ref 999] : List Value).map (zV b bs) = [Value.ref bs] := rfl
set_option maxRecDepth 100000 in
theorem whole_start {p : Program} {e : Env} {s : State} {m : MethodId} {below : List Frame} {meth : Method} {c : Code} (l : Launch) (hflags : l.flags = flags0) {b L : Nat} {xs : Nat → Int32} (hL : L ≤ 3072) (C0 : lw_At p s m meth c b L xs) : W p l e room_1 s m #[Value.ref b] below meth c s.heap [] 0 0 (lw_Z below #[Value.ref b] s) (entryFrame m ([Value.ref b] : List Value).toArray 4) := by
  obtain ⟨hx, hb, hr, hml, hown, hts, hX, hbl, hlocks, -⟩ := C0
  have hz := kTab hts
  have hN := kNest hts
  obtain ⟨D, cs, hK⟩ := kKnow hts
  have hO : va_AO RX3 s := va_AO.of (hts _ (List.mem_of_getElem? kW_obj))
  have hO2 : kAO s := kAO.of (hts _ (List.mem_of_getElem? kW_arr))
  have hY : ∀ q, 1 ≤ q → q < 184 → zYok q = true := fun q h1 h2 => (zAll q h2 h1).1
  have hC : ∀ q, 1 ≤ q → q < 184 → zChk q := fun q h1 h2 => (zAll q h2 h1).2
  have C : kCx p l room_1 s m #[Value.ref b] meth c (kCf 4) 0 s.heap.size b D cs :=
    ⟨by omega, hx, hb, hml, hown, fun q => absurd rfl q, hz, hK, hN, ⟨hO, hO2⟩, fun n' vs Y Y' h' => kCf_ok l s.heap.size b D cs 4 n' vs Y Y' h', by decide, by decide, by decide, by decide⟩
  have hP0 : kP s.heap.size b D cs [] s.heap := ⟨⟨rfl, by decide⟩, fun k x hk => by cases hk⟩
  rw [lg_entry_eq]
  have hl0 : zLoc s.heap.size b (kYy 0) ((lg_sl [Value.ref b] ++ List.replicate (zMx (kYy 0) - (lg_sl [Value.ref b]).length) Slot.unset).toArray) (zEnt (zMx (kYy 0)) [.ref 999]) := zLoc_ent (b := s.heap.size) (bs := b) (vs := [.ref 999]) (by decide) (fun k v hk hc => by
    have h1 : v = .ref 999 := by
      match k, hk with
      | 0, hk => cases hk; rfl
      | k + 1, hk => cases hk
    subst h1
    cases hc)
  refine kGoes_ok C 8 0 [.ref 999, .null, .null, .null] [] [] 0 0 16 [.ref 999, .ref 0, .ref 85, .null] [] kFin 107 2163 _ s.heap [] kEnd_eq hP0 va_S.rf hl0 (fun H1 locs1 lsA1 hP1 hS1 hl1 => ?_)
  have hcl : (nI L).toNatClampNeg = L := nI_clamp (by omega)
  have Cz : zCx p l room_1 s m #[Value.ref b] c 107 2163 (nI L, fun i => xs i.toNatClampNeg) (cf (nI L, fun i => xs i.toNatClampNeg) 8) 0 8 s.heap.size b D cs (kA s.heap.size) s.heap := by
    refine ⟨hx, hb, hml, hown, hz, hK, hN, fun y' vs f' a' j' r' h' g1 g2 => cf_ok l s.heap.size b D cs hY hC 8 y' vs f' a' j' r' h' g1 g2, ⟨by decide, by decide, by decide, by decide⟩, fun q hq => hq.1, fun _ => ⟨hbl, fun q => ?_, ?_, ?_⟩⟩
    · have q : s.heap.size ≤ b := q
      omega
    · obtain ⟨scr, h1, h2, h3, h4, h5⟩ := hX
      refine ⟨scr, h1, h2, h3, ?_, fun j hj => ?_⟩
      · show scr.slots.size = (nI L).toNatClampNeg
        rw [hcl]
        exact h4
      · have hj : j < (nI L).toNatClampNeg := hj
        rw [hcl] at hj
        show scr.slots[j]? = some (.int (xs (nI j).toNatClampNeg))
        rw [nI_clamp (by omega)]
        exact h5 j hj
    · show nI (nI L).toNatClampNeg = nI L
      rw [hcl]
  obtain ⟨f2, a2, j2, hrun⟩ := l_run (sc := (nI L, fun i => xs i.toNatClampNeg)) (n := L) rfl (by omega) L 0 f0 a0 j0 (by omega) (by omega) Iv0
  have hrn : rn (nI L, fun i => xs i.toNatClampNeg) (cf (nI L, fun i => xs i.toNatClampNeg) 8) 0 16 [.ref 999, .ref 0, .ref 85, .null] [] f0 a0 j0 = some (some (.int (nI 1)), f2, a2, j2) := by
    rw [q0_16, q0_17]
    exact hrun
  obtain ⟨n, hn⟩ := zRun_spec.mp hrn
  refine zExec_ok Cz hY zChk_0 n 16 _ [] f0 a0 j0 lsA1 H1 locs1 _ hn (kInit_P hP1) hS1 hl1 (fun pc9 ls9 st9 lsB H2 locs2 f9 a9 j9 hs hP2 hS2 => ?_)
  refine va_forget (fun q hq => hS2.2.2 q hq) ?_
  dsimp only [zStep] at hs
  cases ho : zOp 0 pc9 with
  | none => rw [ho] at hs; cases hs
  | some e9 =>
    rw [ho] at hs
    obtain ⟨q0, ins, len, r1, r2, r3, vi, vl, sw⟩ := e9
    obtain ⟨-, hd, hk⟩ := zOp_ok zChk_0 ho
    dsimp only at hd hk hs
    cases ins with
    | ireturn =>
      simp only [zOkI, Bool.and_eq_true, Nat.beq_eq] at hk
      obtain ⟨rfl, -⟩ := hk
      dsimp only [zIns] at hs
      split at hs
      · rename_i x
        split at hs
        · cases hs
          exact W.widen (by decide) (by decide) (lw_ret hx hb hr hlocks hd)
        · cases hs
      · cases hs
    | ifCond c9 o9 =>
      exfalso
      dsimp only [zIns, zGo] at hs
      split at hs
      · cases c9 <;> cases hs
      · cases hs
    | if_icmp c9 o9 =>
      exfalso
      dsimp only [zIns, zGo] at hs
      split at hs
      · cases c9 <;> cases hs
      · cases hs
    | _ =>
      exfalso
      first
        | (cases hs; done)
        | (dsimp only [zIns, zGo] at hs; cases hs; done)
        | (dsimp only [zIns, zGo] at hs; split at hs <;> cases hs; done)
        | (dsimp only [zIns, zGo] at hs; (repeat' split at hs) <;> cases hs; done)
