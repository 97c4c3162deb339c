/-! ===== THE SMALL MACHINE IS THE MACHINE (1): heap and locals ===== -/
def zAd (b bs k : Nat) : Nat := if k = 999 then bs else b + k
def zV (b bs : Nat) : Value → Value
  | .ref k => if k = 998 then .null else .ref (zAd b bs k)
  | v => v
theorem zV_null (b bs : Nat) : zV b bs (.ref 998) = .null := by
  show (if (998 : Nat) = 998 then Value.null else .ref (zAd b bs 998)) = _
  exact if_pos rfl
theorem zV_ref (b bs k : Nat) : zV b bs (.ref k) = .null ∨ ∃ x, zV b bs (.ref k) = .ref x := by
  by_cases h : k = 998
  · exact Or.inl (if_pos h)
  · exact Or.inr ⟨_, if_neg h⟩
theorem zV_cat (b bs : Nat) (v : Value) : (zV b bs v).category = v.category := by
  cases v with
  | ref k => rcases zV_ref b bs k with h | ⟨x, h⟩ <;> (rw [h]; rfl)
  | _ => rfl
def zTy (cs : Nat → ClassId) : List (ClassId × FieldType) := [(cs 20, .byte), (cs 21, .int), (cs 22, .long), (cs 23, .object RX3), (cs 24, .array .int)]
def zFs (b : Nat) (f : zF) (k : Nat) : List Value := (List.range (zC (zKd k)).2.2).map (fun i => if zIsR (zKd k) i = true then .ref (b + zRf k i) else .int (f k i))
def zCell (b : Nat) (cs : Nat → ClassId) (f : zF) (a : zA) (j : zJ) (k : Nat) : va_E :=
  if zKd k < 20 then .inr (zKd k, zFs b f k)
  else if zKd k = 22 then .inl (cs 22, zLn k, .inr (.inl (fun i => j k (nI i))))
  else if zKd k = 23 ∨ zKd k = 24 then .inl (cs (zKd k), zLn k, .inr (.inr (.inr (.inr (fun i => some (b + zRf k i))))))
  else .inl (cs (zKd k), zLn k, .inl (fun i => a k (nI i)))
def zW (b : Nat) (cs : Nat → ClassId) (f : zF) (a : zA) (j : zJ) : va_W := (List.range zNC).map (fun k => (b + k, zCell b cs f a j k))
def zA0 (b : Nat) : Nat → Prop := fun q => b ≤ q ∧ q < b + zNC
theorem zKd_lt {k n : Nat} (h : zKd k = n) (hn : n < 99) : k < zNC := by
  rcases Nat.lt_or_ge k zNC with q | q
  · exact q
  · have h1 : zKds[k]? = none := List.getElem?_eq_none q
    unfold zKd at h
    rw [List.getD_eq_getElem?_getD, h1] at h
    simp at h
    omega
theorem zNC_lt {k : Nat} (h : k < zNC) : k ≠ 999 := fun q => by subst q; exact absurd h (by decide)
theorem zNC_l8 {k : Nat} (h : k < zNC) : k ≠ 998 := fun q => by subst q; exact absurd h (by decide)
theorem zAd_lt {b bs k : Nat} (h : k < zNC) : zAd b bs k = b + k := if_neg (zNC_lt h)
theorem zV_lt {b bs k : Nat} (h : k < zNC) : zV b bs (.ref k) = .ref (b + k) := by
  show (if k = 998 then Value.null else .ref (zAd b bs k)) = _
  rw [if_neg (zNC_l8 h), zAd_lt h]
theorem zW_get {b : Nat} {cs : Nat → ClassId} {f : zF} {a : zA} {j : zJ} {k : Nat} (hk : k < zNC) : (zW b cs f a j)[k]? = some (b + k, zCell b cs f a j k) := by simp [zW, hk]
theorem zW_some {b : Nat} {cs : Nat → ClassId} {f : zF} {a : zA} {j : zJ} {k : Nat} {q : Nat × va_E} (h : (zW b cs f a j)[k]? = some q) : k < zNC ∧ q = (b + k, zCell b cs f a j k) := by
  have hk : k < zNC := by
    have h1 := (List.getElem?_eq_some_iff.mp h).1
    simpa [zW] using h1
  rw [zW_get hk] at h
  exact ⟨hk, (Option.some.inj h).symm⟩
theorem zW_D {A : Nat → Prop} {b : Nat} {cs : Nat → ClassId} {f : zF} {a : zA} {j : zJ} (hA : ∀ q, zA0 b q → A q) : va_D A (zW b cs f a j) := by
  refine ⟨fun i k p q hi hk hpq => ?_, fun k q hk => ?_⟩
  · obtain ⟨-, rfl⟩ := zW_some hi
    obtain ⟨-, rfl⟩ := zW_some hk
    dsimp only at hpq
    omega
  · obtain ⟨h1, rfl⟩ := zW_some hk
    exact hA _ ⟨Nat.le_add_right _ _, Nat.add_lt_add_left h1 _⟩
/-- one cell was written -/
theorem zW_set {D : va_G} {b : Nat} {cs : Nat → ClassId} {f f' : zF} {a a' : zA} {j j' : zJ} {k : Nat} {e : va_E} {H : Heap} (h : va_P D zvCl ((zW b cs f a j).set k (b + k, e)) H) (hk : k < zNC) (hs : va_at D zvCl (b + k, e) H → va_at D zvCl (b + k, zCell b cs f' a' j' k) H) (ho : ∀ i, i < zNC → i ≠ k → zCell b cs f' a' j' i = zCell b cs f a j i) : va_P D zvCl (zW b cs f' a' j') H := by
  intro i q hi
  obtain ⟨hi2, rfl⟩ := zW_some hi
  clear hi
  by_cases hik : i = k
  · subst hik
    exact hs (h i _ (List.getElem?_set_self (by simpa [zW] using hi2)))
  · rw [ho i hi2 hik]
    exact h i _ (by rw [List.getElem?_set_ne (Ne.symm hik)]; exact zW_get hi2)
theorem zcell_i {cA : ClassId} {n : Nat} {g g' : Nat → Int32} (h : ∀ q, q < n → g q = g' q) : vp_cell cA (n, .inl g) = vp_cell cA (n, .inl g') := by
  rw [vp_cell_i, vp_cell_i]
  unfold arrV
  have e : (fun j : Fin n => Value.int (g j.val)) = fun j : Fin n => Value.int (g' j.val) := funext fun j => by rw [h j.val j.isLt]
  rw [e]
theorem zcell_l {cA : ClassId} {n : Nat} {g g' : Nat → Int64} (h : ∀ q, q < n → g q = g' q) : vp_cell cA (n, .inr (.inl g)) = vp_cell cA (n, .inr (.inl g')) := by
  rw [vp_cell_l, vp_cell_l]
  unfold arrV
  have e : (fun j : Fin n => Value.long (g j.val)) = fun j : Fin n => Value.long (g' j.val) := funext fun j => by rw [h j.val j.isLt]
  rw [e]
theorem z_nIc {i : Int32} (h : ¬ i < 0) : nI i.toNatClampNeg = i := by
  obtain ⟨q, hq, rfl⟩ := nI_of h
  rw [nI_clamp hq]
theorem zCell_obj {b : Nat} {cs : Nat → ClassId} {f : zF} {a : zA} {j : zJ} {k n : Nat} (h : zKd k = n) (hn : n < 20) : zCell b cs f a j k = .inr (n, zFs b f k) := by
  subst h
  exact if_pos hn
theorem zCell_i {b : Nat} {cs : Nat → ClassId} {f : zF} {a : zA} {j : zJ} {k n : Nat} (h : zKd k = n) (hn : n = 20 ∨ n = 21) : zCell b cs f a j k = .inl (cs n, zLn k, .inl (fun i => a k (nI i))) := by
  unfold zCell
  rw [h]
  rcases hn with rfl | rfl <;> simp
theorem zCell_l {b : Nat} {cs : Nat → ClassId} {f : zF} {a : zA} {j : zJ} {k : Nat} (h : zKd k = 22) : zCell b cs f a j k = .inl (cs 22, zLn k, .inr (.inl (fun i => j k (nI i)))) := by
  unfold zCell
  rw [h]
  simp
theorem zCell_q {b : Nat} {cs : Nat → ClassId} {f : zF} {a : zA} {j : zJ} {k n : Nat} (h : zKd k = n) (hn : n = 23 ∨ n = 24) : zCell b cs f a j k = .inl (cs n, zLn k, .inr (.inr (.inr (.inr (fun i => some (b + zRf k i)))))) := by
  unfold zCell
  rw [h]
  rcases hn with rfl | rfl <;> simp
theorem zFs_set {b : Nat} {f : zF} {k i : Nat} {x : Int32} (hi : i < (zC (zKd k)).2.2) (hr : zIsR (zKd k) i = false) : zFs b (zuF f k i x) k = (zFs b f k).set i (.int x) := by
  apply List.ext_getElem?
  intro q
  by_cases hq : q = i
  · subst hq
    rw [List.getElem?_set_self (by simpa [zFs] using hi)]
    simp [zFs, hi, hr, zuF]
  · rw [List.getElem?_set_ne (Ne.symm hq)]
    by_cases hqn : q < (zC (zKd k)).2.2
    · simp [zFs, hqn, zuF, hq]
    · simp [zFs, hqn]
theorem zFs_ne {b : Nat} {f : zF} {k k' i : Nat} {x : Int32} (h : k' ≠ k) : zFs b (zuF f k i x) k' = zFs b f k' := by
  unfold zFs
  congr 1
  funext z
  simp [zuF, h]
/-- the locals -/
def zLoc (b bs y : Nat) (lsA : Array Slot) (ls : List Value) : Prop := (lsA.size = zMx y ∧ lv_wf lsA ∧ ∀ (k : Nat) (v : Value), ls[k]? = some v → v ≠ .null → lsA[k]? = some (.val (zV b bs v))) ∧ ls.length = zMx y ∧ ∀ (k : Nat) (v : Value), ls[k]? = some v → v.category = 2 → k ∈ zLg y
def zAs (b bs : Nat) (ls : List Value) : List (Nat × Value) := (List.range ls.length).filterMap (fun k => match (ls[k]? : Option Value) with
  | some Value.null => none
  | some v => some (k, zV b bs v)
  | none => none)
theorem zAs_mem {b bs : Nat} {ls : List Value} {k : Nat} {w : Value} : (k, w) ∈ zAs b bs ls ↔ ∃ v, ls[k]? = some v ∧ v ≠ .null ∧ w = zV b bs v := by
  unfold zAs
  rw [List.mem_filterMap]
  constructor
  · rintro ⟨i, hi, h⟩
    split at h
    · cases h
    · rename_i v hv hn
      cases h
      exact ⟨v, hn, hv, rfl⟩
    · cases h
  · rintro ⟨v, h1, h2, rfl⟩
    refine ⟨k, List.mem_range.mpr (List.getElem?_eq_some_iff.mp h1).1, ?_⟩
    rw [h1]
    cases v <;> first | rfl | exact absurd rfl h2
theorem zLoc_has {b bs y : Nat} {lsA : Array Slot} {ls : List Value} (h : zLoc b bs y lsA ls) : lv_has lsA (zMx y) (zAs b bs ls) := ⟨h.1.1, h.1.2.1, fun q hq => by
  obtain ⟨k, w⟩ := q
  obtain ⟨v, h1, h2, rfl⟩ := zAs_mem.mp hq
  exact h.1.2.2 k v h1 h2⟩
theorem zNoL_use {y r k : Nat} (h : zNoL y r = true) (hk : k ∈ zLg y) : k + 1 ≠ r := by
  have h1 := List.all_eq_true.mp h k hk
  intro q
  subst q
  simp at h1
theorem zLoc_set1 {b bs y r : Nat} {lsA lsB : Array Slot} {ls : List Value} {v w : Value} (h : zLoc b bs y lsA ls) (hr : r < zMx y) (hn : zNoL y r = true) (hv : v.category = 1) (hw : zV b bs v = w) (hB : lv_has lsB (zMx y) ((r, w) :: (zAs b bs ls).filter (fun q => !(q.1 == r) && !(q.1 + 1 == r && q.2.category == 2)))) : zLoc b bs y lsB (ls.set r v) := by
  subst hw
  have hlen : r < ls.length := by rw [h.2.1]; exact hr
  refine ⟨⟨hB.1, hB.2.1, fun k v' hk hn' => ?_⟩, by rw [List.length_set]; exact h.2.1, fun k v' hk hc => ?_⟩
  · by_cases e : k = r
    · subst e
      rw [List.getElem?_set_self hlen] at hk
      cases hk
      exact hB.2.2 (k, _) List.mem_cons_self
    · rw [List.getElem?_set_ne (Ne.symm e)] at hk
      refine hB.2.2 (k, zV b bs v') (List.mem_cons_of_mem _ (List.mem_filter.mpr ⟨zAs_mem.mpr ⟨v', hk, hn', rfl⟩, ?_⟩))
      rw [zV_cat]
      by_cases hc : v'.category = 2
      · have h9 := zNoL_use hn (h.2.2 k v' hk hc)
        simp [e, h9]
      · simp [e, hc]
  · by_cases e : k = r
    · subst e
      rw [List.getElem?_set_self hlen] at hk
      cases hk
      omega
    · rw [List.getElem?_set_ne (Ne.symm e)] at hk
      exact h.2.2 k v' hk hc
theorem zLoc_set2 {b bs y r : Nat} {lsA lsB : Array Slot} {ls : List Value} {x : Int64} (h : zLoc b bs y lsA ls) (hr : r + 1 < zMx y) (hn : zNoL y r = true) (hm : r ∈ zLg y) (hB : lv_has lsB (zMx y) ((r, .long x) :: (zAs b bs ls).filter (fun q => !(q.1 == r) && (!(q.1 == r + 1) && !(q.1 + 1 == r && q.2.category == 2))))) : zLoc b bs y lsB ((ls.set r (.long x)).set (r + 1) .null) := by
  have hlen : r + 1 < ls.length := by rw [h.2.1]; exact hr
  refine ⟨⟨hB.1, hB.2.1, fun k v' hk hn' => ?_⟩, by rw [List.length_set, List.length_set]; exact h.2.1, fun k v' hk hc => ?_⟩
  · by_cases e1 : k = r + 1
    · subst e1
      rw [List.getElem?_set_self (by rw [List.length_set]; exact hlen)] at hk
      cases hk
      exact absurd rfl hn'
    · rw [List.getElem?_set_ne (Ne.symm e1)] at hk
      by_cases e : k = r
      · subst e
        rw [List.getElem?_set_self (by omega)] at hk
        cases hk
        exact hB.2.2 (k, _) List.mem_cons_self
      · rw [List.getElem?_set_ne (Ne.symm e)] at hk
        refine hB.2.2 (k, zV b bs v') (List.mem_cons_of_mem _ (List.mem_filter.mpr ⟨zAs_mem.mpr ⟨v', hk, hn', rfl⟩, ?_⟩))
        rw [zV_cat]
        by_cases hc : v'.category = 2
        · have h9 := zNoL_use hn (h.2.2 k v' hk hc)
          simp [e, e1, h9]
        · simp [e, e1, hc]
  · by_cases e1 : k = r + 1
    · subst e1
      rw [List.getElem?_set_self (by rw [List.length_set]; exact hlen)] at hk
      cases hk
      cases hc
    · rw [List.getElem?_set_ne (Ne.symm e1)] at hk
      by_cases e : k = r
      · subst e
        exact hm
      · rw [List.getElem?_set_ne (Ne.symm e)] at hk
        exact h.2.2 k v' hk hc
/-- at a method's entry -/
theorem zArg_args (b bs : Nat) : ∀ (vs : List Value) (i : Nat) (k : Nat) (v : Value), (zArg vs)[k]? = some v → v ≠ .null → (i + k, zV b bs v) ∈ lv_args i (vs.map (zV b bs))
  | [], i, k, v, h, _ => by simp [zArg] at h
  | u :: r, i, k, v, h, hn => by
    unfold zArg at h
    rw [List.map_cons]
    unfold lv_args
    rw [zV_cat]
    by_cases hc : u.category = 2
    · rw [if_pos hc] at h
      rw [if_pos hc]
      match k, h with
      | 0, h => cases h; exact List.mem_cons_self
      | 1, h => cases h; exact absurd rfl hn
      | k + 2, h =>
        have h1 := zArg_args b bs r (i + 2) k v h hn
        rw [show i + (k + 2) = i + 2 + k by omega]
        exact List.mem_cons_of_mem _ h1
    · rw [if_neg hc] at h
      rw [if_neg hc]
      match k, h with
      | 0, h => cases h; exact List.mem_cons_self
      | k + 1, h =>
        have h1 := zArg_args b bs r (i + 1) k v h hn
        rw [show i + (k + 1) = i + 1 + k by omega]
        exact List.mem_cons_of_mem _ h1
theorem zArg_len (b bs : Nat) : ∀ vs : List Value, (lg_sl (vs.map (zV b bs))).length = (zArg vs).length
  | [] => rfl
  | u :: r => by
    have ih := zArg_len b bs r
    unfold zArg
    rw [List.map_cons]
    show (List.flatMap _ _).length = _
    rw [List.flatMap_cons, List.length_append, zV_cat]
    have ih' : (List.flatMap (fun v : Value => if v.category = 2 then [Slot.val v, Slot.second] else [Slot.val v]) (r.map (zV b bs))).length = (zArg r).length := ih
    rw [ih']
    by_cases hc : u.category = 2
    · simp [hc]; omega
    · simp [hc]; omega
theorem zEnt_get {n : Nat} {vs : List Value} {k : Nat} {v : Value} (h : (zEnt n vs)[k]? = some v) (hn : v ≠ .null) : (zArg vs)[k]? = some v := by
  unfold zEnt at h
  by_cases hk : k < (zArg vs).length
  · rwa [List.getElem?_append_left hk] at h
  · rw [List.getElem?_append_right (by omega)] at h
    have h1 := List.getElem?_replicate (n := n - (zArg vs).length) (a := Value.null) (i := k - (zArg vs).length)
    rw [h1] at h
    split at h
    · cases h; exact absurd rfl hn
    · cases h
theorem zLoc_ent {b bs y : Nat} {vs : List Value} (hl : (zArg vs).length ≤ zMx y) (hc : ∀ (k : Nat) (v : Value), (zArg vs)[k]? = some v → v.category = 2 → k ∈ zLg y) :
    zLoc b bs y ((lg_sl (vs.map (zV b bs)) ++ List.replicate (zMx y - (lg_sl (vs.map (zV b bs))).length) Slot.unset).toArray) (zEnt (zMx y) vs) := by
  have h0 := lv_entry (vs.map (zV b bs)) (n := zMx y) (by rw [zArg_len]; exact hl)
  refine ⟨⟨h0.1, h0.2.1, fun k v hk hn => ?_⟩, ?_, fun k v hk h2 => ?_⟩
  · have h1 := zArg_args b bs vs 0 k v (zEnt_get hk hn) hn
    rw [Nat.zero_add] at h1
    exact h0.2.2 _ h1
  · unfold zEnt
    rw [List.length_append, List.length_replicate]
    omega
  · exact hc k v (zEnt_get hk (fun q => by rw [q] at h2; cases h2)) h2
