/-! ===== the law's calls: the class's call and the reference's call on two objects that hold the same state ===== -/
/-- the class's half of the state -/
def CI (σ τ : Nat → Nat) (kb : Bool) (tx : Nat → Nat) (tn : Nat) (T : TS) (f : zF) (a : zA) (j : zJ) : Prop :=
  (WR 1 σ f a ∧ VS σ) ∧ (f 0 2 = nI (if kb = true then 1 else 0) ∧ (kb = true → WR 23 τ f a ∧ VS τ)) ∧ (TX tx tn f a ∧ VX tx tn) ∧ (TP T f j ∧ VT T)
/-- the reference's half -/
def RI (σ τ : Nat → Nat) (kb : Bool) (tx : Nat → Nat) (tn : Nat) (T : TS) (f : zF) (a : zA) (j : zJ) : Prop := MR σ a ∧ MK kb τ f a ∧ MX tx tn f a ∧ MT T a j
def Up (f f' : zF) (a a' : zA) (j j' : zJ) : Prop := ∀ k, 85 ≤ k → f' k = f k ∧ a' k = a k ∧ j' k = j k
def Dn (f f' : zF) (a a' : zA) (j j' : zJ) : Prop := ∀ k, k < 85 → f' k = f k ∧ a' k = a k ∧ j' k = j k
def Iv (f : zF) (a : zA) (j : zJ) : Prop := ∃ (σ τ : Nat → Nat) (kb : Bool) (tx : Nat → Nat) (tn : Nat) (T : TS), CI σ τ kb tx tn T f a j ∧ RI σ τ kb tx tn T f a j
def OpI (sc : Int32 × (Int32 → Int32)) (y y' : Nat) (args : List Value) (f : zF) (a : zA) (j : zJ) : Prop :=
  ∃ (v : Int32) (f1 : zF) (a1 : zA) (j1 : zJ) (f2 : zF) (a2 : zA) (j2 : zJ), cf sc 8 y (.ref 0 :: args) f a j = some (some (.int v), f1, a1, j1) ∧ cf sc 8 y' (.ref 85 :: args) f1 a1 j1 = some (some (.int v), f2, a2, j2) ∧ Iv f2 a2 j2
def OpL (sc : Int32 × (Int32 → Int32)) (y y' : Nat) (args : List Value) (f : zF) (a : zA) (j : zJ) : Prop :=
  ∃ (v : Int64) (f1 : zF) (a1 : zA) (j1 : zJ) (f2 : zF) (a2 : zA) (j2 : zJ), cf sc 8 y (.ref 0 :: args) f a j = some (some (.long v), f1, a1, j1) ∧ cf sc 8 y' (.ref 85 :: args) f1 a1 j1 = some (some (.long v), f2, a2, j2) ∧ Iv f2 a2 j2
section ZI
variable {σ σ' τ : Nat → Nat} {kb : Bool} {tx tx' : Nat → Nat} {tn tn' : Nat} {T T' : TS} {f f' : zF} {a a' : zA} {j j' : zJ}
theorem wr23 (h : kb = true → WR 23 τ f a ∧ VS τ) (hf : ∀ k, 22 < k → k < 45 → f' k = f k) (ha : ∀ k, 22 < k → k < 45 → a' k = a k) : kb = true → WR 23 τ f' a' ∧ VS τ :=
  fun e => ⟨(h e).1.gen isW_23 (fun k h1 => hf k (by omega) (by omega)) (fun k h1 => ha k (by omega) (by omega)), (h e).2⟩
theorem CI.dn (c : CI σ τ kb tx tn T f a j) (e : Dn f f' a a' j j') : CI σ τ kb tx tn T f' a' j' := by
  obtain ⟨⟨c1, c2⟩, ⟨c3, c4⟩, ⟨⟨c5, c6⟩, c7⟩, c8, c9⟩ := c
  refine ⟨⟨c1.lo (fun k hk => (e k (by omega)).1) (fun k hk => (e k (by omega)).2.1), c2⟩, ⟨by rw [(e 0 (by omega)).1]; exact c3, wr23 c4 (fun k _ hk => (e k (by omega)).1) (fun k _ hk => (e k (by omega)).2.1)⟩, ⟨⟨by rw [(e 65 (by omega)).1]; exact c5, fun i hi => by rw [(e 66 (by omega)).2.1]; exact c6 i hi⟩, c7⟩, fun t ht => ?_, c9⟩
  rw [(e (73 + 2 * t) (by omega)).1, (e (73 + 2 * t + 1) (by omega)).2.2]
  exact c8 t ht
theorem RI.up (r : RI σ τ kb tx tn T f a j) (e : Up f f' a a' j j') : RI σ τ kb tx tn T f' a' j' := by
  obtain ⟨r1, ⟨r2, r3⟩, ⟨r4, r5⟩, r6⟩ := r
  refine ⟨r1.of (e 86 (by omega)).2.1, ⟨by rw [(e 85 (by omega)).1]; exact r2, fun h i hi => by rw [(e 87 (by omega)).2.1]; exact r3 h i hi⟩, ⟨by rw [(e 85 (by omega)).1]; exact r4, fun i hi => by rw [(e 98 (by omega)).2.1]; exact r5 i hi⟩, fun t ht => ?_⟩
  rw [(e 104 (by omega)).2.1, (e 105 (by omega)).2.1, (e 106 (by omega)).2.2]
  exact r6 t ht
theorem FrW.up (h : FrW f f' a a') : Up f f' a a' j j := fun k hk => ⟨h.1 k (by omega), h.2 k (by omega), rfl⟩
theorem FrX.up (h : FrX f f' a a') : Up f f' a a' j j := fun k hk => ⟨h.1 k (by omega), h.2 k (by omega), rfl⟩
theorem FrV.up (h : FrV f f' a a') : Up f f' a a' j j := fun k hk => ⟨h.1 k (by omega), h.2 k (by omega), rfl⟩
theorem FrP.up (h : FrP f f' j j') : Up f f' a a j j' := fun k hk => ⟨h.1 k (by omega), rfl, h.2 k (by omega)⟩
theorem MFW.dn (h : MFW f f' a a') : Dn f f' a a' j j := fun k hk => ⟨h.1 k (by omega), h.2.2 k (by omega), rfl⟩
theorem CI.fw (c : CI σ τ kb tx tn T f a j) (h : FrW f f' a a') (hW : WR 1 σ' f' a') (hV : VS σ') : CI σ' τ kb tx tn T f' a' j := by
  obtain ⟨⟨c1, c2⟩, ⟨c3, c4⟩, ⟨⟨c5, c6⟩, c7⟩, c8, c9⟩ := c
  refine ⟨⟨hW, hV⟩, ⟨by rw [h.1 0 (by omega)]; exact c3, wr23 c4 (fun k h1 hk => h.1 k (by omega)) (fun k h1 hk => h.2 k (by omega))⟩, ⟨⟨by rw [h.1 65 (by omega)]; exact c5, fun i hi => by rw [h.2 66 (by omega)]; exact c6 i hi⟩, c7⟩, fun t ht => ?_, c9⟩
  rw [h.1 (73 + 2 * t) (by omega)]
  exact c8 t ht
theorem CI.ft (c : CI σ τ kb tx tn T f a j) (h : FrT f f' a a') : CI σ τ kb tx tn T f' a' j := c.fw h.w (c.1.1.lo (fun k hk => h.1 k (by omega)) (fun k hk => h.2 k (by omega))) c.1.2
theorem CI.fe (c : CI σ τ kb tx tn T f a j) (h : FrE f f' a a') : CI σ τ kb tx tn T f' a' j := c.fw h.w (c.1.1.fe h) c.1.2
theorem CI.fp (c : CI σ τ kb tx tn T f a j) (h : FrP f f' j j') (hT : TP T' f' j') (hV : VT T') : CI σ τ kb tx tn T' f' a j' := by
  obtain ⟨⟨c1, c2⟩, ⟨c3, c4⟩, ⟨⟨c5, c6⟩, c7⟩, c8, c9⟩ := c
  exact ⟨⟨c1.lo (fun k hk => h.1 k (by omega)) (fun k hk => rfl), c2⟩, ⟨by rw [h.1 0 (by omega)]; exact c3, wr23 c4 (fun k h1 hk => h.1 k (by omega)) (fun k h1 hk => rfl)⟩, ⟨⟨by rw [h.1 65 (by omega)]; exact c5, c6⟩, c7⟩, hT, hV⟩
theorem RI.fw (r : RI σ τ kb tx tn T f a j) (h : MFW f f' a a') (hR : MR σ' a') : RI σ' τ kb tx tn T f' a' j := by
  obtain ⟨r1, ⟨r2, r3⟩, ⟨r4, r5⟩, r6⟩ := r
  refine ⟨hR, ⟨by rw [h.2.1 4 (by omega) (by omega) (by omega)]; exact r2, fun h' i hi => by rw [h.2.2 87 (by omega)]; exact r3 h' i hi⟩, ⟨by rw [h.2.1 18 (by omega) (by omega) (by omega)]; exact r4, fun i hi => by rw [h.2.2 98 (by omega)]; exact r5 i hi⟩, fun t ht => ?_⟩
  rw [h.2.2 104 (by omega), h.2.2 105 (by omega)]
  exact r6 t ht
theorem RI.ft (r : RI σ τ kb tx tn T f a j) (h : MF f f' a a') : RI σ τ kb tx tn T f' a' j := r.fw h.w (h.r r.1)
theorem RI.fg (r : RI σ τ kb tx tn T f a j) (h : MG f f' a a') : RI σ τ kb tx tn T f' a' j := r.fw h.w (h.r r.1)
theorem MFW.of86 (h : ∀ k, k ≠ 86 → a' k = a k) : MFW f f a a' := MFW.a (fun k hk => by rcases hk with q | rfl | rfl | q <;> exact h _ (by omega))
end ZI

theorem o_0 {sc : Int32 × (Int32 → Int32)} {f : zF} {a : zA} {j : zJ} {σ τ : Nat → Nat} {kb : Bool} {tx : Nat → Nat} {tn : Nat} {T : TS} {v1 v2 : Int32} (c : CI σ τ kb tx tn T f a j) (r : RI σ τ kb tx tn T f a j) : OpI sc 53 112 [.int v1, .int v2] f a j := by
  obtain ⟨f1, a1, h1, h2, h3, h4⟩ := x_field (sc := sc) (d := 5) (f := f) (a := a) (j := j) (x := v1) (y := v2) c.1.1 c.1.2
  have c1 := c.fw h4.w h2 h3
  have r1 := r.up (h4.w.up (j := j))
  obtain ⟨a2, g1, g2, g3⟩ := y_field (sc := sc) (d := 6) (f := f1) (a := a1) (j := j) (x := v1) (y := v2) r1.1 c.1.2.1.1.1
  exact ⟨_, _, _, _, _, _, _, h1, g1, ⟨_, _, _, _, _, _, c1.dn (MFW.of86 (f := f1) g3).dn, r1.fw (MFW.of86 g3) g2⟩⟩
theorem o_1 {sc : Int32 × (Int32 → Int32)} {f : zF} {a : zA} {j : zJ} {σ τ : Nat → Nat} {kb : Bool} {tx : Nat → Nat} {tn : Nat} {T : TS} {v1 v2 v3 : Int32} (c : CI σ τ kb tx tn T f a j) (r : RI σ τ kb tx tn T f a j) : OpI sc 54 113 [.int v1, .int v2, .int v3] f a j := by
  obtain ⟨f1, a1, h1, h2, h3, h4⟩ := x_renew (sc := sc) (d := 4) (f := f) (a := a) (j := j) (v := v1) (x := v2) (y := v3) c.1.1 c.1.2
  have c1 := c.fw h4.w h2 h3
  have r1 := r.up (h4.w.up (j := j))
  obtain ⟨a2, g1, g2, g3⟩ := y_renew (sc := sc) (d := 5) (f := f1) (a := a1) (j := j) (v := v1) (w := v2) (x := v3) r1.1 c.1.2.1.1.1
  exact ⟨_, _, _, _, _, _, _, h1, g1, ⟨_, _, _, _, _, _, c1.dn (MFW.of86 (f := f1) g3).dn, r1.fw (MFW.of86 g3) g2⟩⟩
theorem o_2 {sc : Int32 × (Int32 → Int32)} {f : zF} {a : zA} {j : zJ} {σ τ : Nat → Nat} {kb : Bool} {tx : Nat → Nat} {tn : Nat} {T : TS} {v1 v2 : Int32} (c : CI σ τ kb tx tn T f a j) (r : RI σ τ kb tx tn T f a j) : OpI sc 55 114 [.int v1, .int v2] f a j := by
  obtain ⟨f1, a1, h1, h2, h3, h4⟩ := x_absent (sc := sc) (d := 4) (f := f) (a := a) (j := j) (v := v1) (b := v2) c.1.1 c.1.2
  have c1 := c.fw h4.w h2 h3
  have r1 := r.up (h4.w.up (j := j))
  obtain ⟨a2, g1, g2, g3⟩ := y_absent (sc := sc) (d := 5) (f := f1) (a := a1) (j := j) (v := v1) (b := v2) r1.1 c.1.2.1.1.1
  exact ⟨_, _, _, _, _, _, _, h1, g1, ⟨_, _, _, _, _, _, c1.dn (MFW.of86 (f := f1) g3).dn, r1.fw (MFW.of86 g3) g2⟩⟩
theorem o_3 {sc : Int32 × (Int32 → Int32)} {f : zF} {a : zA} {j : zJ} {σ τ : Nat → Nat} {kb : Bool} {tx : Nat → Nat} {tn : Nat} {T : TS} {v1 v2 v3 : Int32} (c : CI σ τ kb tx tn T f a j) (r : RI σ τ kb tx tn T f a j) : OpI sc 56 115 [.int v1, .int v2, .int v3] f a j := by
  obtain ⟨f1, a1, h1, h2, h3, h4⟩ := x_reach (sc := sc) (d := 4) (f := f) (a := a) (j := j) (v := v1) (x := v2) (y := v3) c.1.1 c.1.2
  have c1 := c.fw h4.w h2 h3
  have r1 := r.up (h4.w.up (j := j))
  obtain ⟨a2, g1, g2, g3⟩ := y_reach (sc := sc) (d := 6) (f := f1) (a := a1) (j := j) (v := v1) (w := v2) (x := v3) r1.1
  exact ⟨_, _, _, _, _, _, _, h1, g1, ⟨_, _, _, _, _, _, c1.dn (MFW.of86 (f := f1) g3).dn, r1.fw (MFW.of86 g3) g2⟩⟩
theorem o_4 {sc : Int32 × (Int32 → Int32)} {f : zF} {a : zA} {j : zJ} {σ τ : Nat → Nat} {kb : Bool} {tx : Nat → Nat} {tn : Nat} {T : TS} {v1 v2 : Int32} (c : CI σ τ kb tx tn T f a j) (r : RI σ τ kb tx tn T f a j) : OpI sc 57 116 [.int v1, .int v2] f a j := by
  have h1 := x_reachOf (sc := sc) (d := 6) (f := f) (a := a) (j := j) (v := v1) (what := v2) c.1.1 c.1.2
  have g1 := y_reachOf (sc := sc) (d := 6) (f := f) (a := a) (j := j) (v := v1) (w := v2) r.1 c.1.2.1.1
  exact ⟨_, _, _, _, _, _, _, h1, g1, ⟨_, _, _, _, _, _, c, r⟩⟩
theorem o_5 {sc : Int32 × (Int32 → Int32)} {f : zF} {a : zA} {j : zJ} {σ τ : Nat → Nat} {kb : Bool} {tx : Nat → Nat} {tn : Nat} {T : TS} {v1 : Int32} (c : CI σ τ kb tx tn T f a j) (r : RI σ τ kb tx tn T f a j) : OpI sc 58 117 [.int v1] f a j := by
  obtain ⟨f1, a1, h1, h2, h3, h4⟩ := x_hours (sc := sc) (d := 5) (f := f) (a := a) (j := j) (v := v1) c.1.1 c.1.2
  have c1 := c.fw h4.w h2 h3
  have r1 := r.up (h4.w.up (j := j))
  obtain ⟨a2, g1, g2, g3⟩ := y_hours (sc := sc) (d := 6) (f := f1) (a := a1) (j := j) (v := v1) r1.1
  exact ⟨_, _, _, _, _, _, _, h1, g1, ⟨_, _, _, _, _, _, c1.dn (MFW.of86 (f := f1) g3).dn, r1.fw (MFW.of86 g3) g2⟩⟩
theorem o_6 {sc : Int32 × (Int32 → Int32)} {f : zF} {a : zA} {j : zJ} {σ τ : Nat → Nat} {kb : Bool} {tx : Nat → Nat} {tn : Nat} {T : TS} {v1 : Int32} (c : CI σ τ kb tx tn T f a j) (r : RI σ τ kb tx tn T f a j) : OpI sc 59 118 [.int v1] f a j := by
  obtain ⟨f1, a1, h1, h2, h3, h4⟩ := x_rule (sc := sc) (d := 5) (f := f) (a := a) (j := j) (v := v1) c.1.1 c.1.2
  have c1 := c.fw h4.w h2 h3
  have r1 := r.up (h4.w.up (j := j))
  obtain ⟨a2, g1, g2, g3⟩ := y_rule (sc := sc) (d := 6) (f := f1) (a := a1) (j := j) (v := v1) r1.1
  exact ⟨_, _, _, _, _, _, _, h1, g1, ⟨_, _, _, _, _, _, c1.dn (MFW.of86 (f := f1) g3).dn, r1.fw (MFW.of86 g3) g2⟩⟩
theorem o_7 {sc : Int32 × (Int32 → Int32)} {f : zF} {a : zA} {j : zJ} {σ τ : Nat → Nat} {kb : Bool} {tx : Nat → Nat} {tn : Nat} {T : TS} {v1 : Int32} (c : CI σ τ kb tx tn T f a j) (r : RI σ τ kb tx tn T f a j) : OpI sc 60 119 [.int v1] f a j := by
  obtain ⟨f1, a1, h1, h2, h3, h4⟩ := x_pass (sc := sc) (d := 5) (f := f) (a := a) (j := j) (v := v1) c.1.1 c.1.2
  have c1 := c.fw h4.w h2 h3
  have r1 := r.up (h4.w.up (j := j))
  obtain ⟨a2, g1, g2, g3⟩ := y_pass (sc := sc) (d := 6) (f := f1) (a := a1) (j := j) (v := v1) r1.1 c.1.2.1.2.2.2.2
  exact ⟨_, _, _, _, _, _, _, h1, g1, ⟨_, _, _, _, _, _, c1.dn (MFW.of86 (f := f1) g3).dn, r1.fw (MFW.of86 g3) g2⟩⟩
theorem o_8 {sc : Int32 × (Int32 → Int32)} {f : zF} {a : zA} {j : zJ} {σ τ : Nat → Nat} {kb : Bool} {tx : Nat → Nat} {tn : Nat} {T : TS} {v1 v2 : Int32} (c : CI σ τ kb tx tn T f a j) (r : RI σ τ kb tx tn T f a j) : OpI sc 61 137 [.int v1, .int v2] f a j := by
  obtain ⟨f1, a1, h1, h3⟩ := x_of (sc := sc) (d := 1) (f := f) (a := a) (j := j) (v := v1) (what := v2) c.1.1 c.1.2
  have c1 := c.ft h3
  have r1 := r.up (h3.w.up (j := j))
  obtain ⟨f2, a2, g1, g2⟩ := y_of (sc := sc) (d := 1) (f := f1) (a := a1) (j := j) (v := v1) (what := v2) r1.1 c.1.2
  exact ⟨_, _, _, _, _, _, _, h1, g1, ⟨_, _, _, _, _, _, c1.dn g2.w.dn, r1.ft g2⟩⟩
theorem o_9 {sc : Int32 × (Int32 → Int32)} {f : zF} {a : zA} {j : zJ} {σ τ : Nat → Nat} {kb : Bool} {tx : Nat → Nat} {tn : Nat} {T : TS} {v1 : Int32} (c : CI σ τ kb tx tn T f a j) (r : RI σ τ kb tx tn T f a j) : OpI sc 62 138 [.int v1] f a j := by
  obtain ⟨f1, a1, h1, h2, h3, h4⟩ := x_feed (sc := sc) (d := 5) (f := f) (a := a) (j := j) (v := v1) c.2.2.1.1 c.2.2.1.2
  have r1 := r.up (h4.up (j := j))
  have c1 : CI σ τ kb (fdS tx tn v1).2.1 (fdS tx tn v1).2.2 T f1 a1 j := by
    obtain ⟨⟨c1, c2⟩, ⟨c3, c4⟩, c7, c8, c9⟩ := c
    refine ⟨⟨c1.lo (fun k hk => h4.1 k (by omega)) (fun k hk => h4.2 k (by omega)), c2⟩, ⟨by rw [h4.1 0 (by omega)]; exact c3, wr23 c4 (fun k q hk => h4.1 k (by omega)) (fun k q hk => h4.2 k (by omega))⟩, ⟨h2, h3⟩, fun t ht => ?_, c9⟩
    rw [h4.1 (73 + 2 * t) (by omega)]
    exact c8 t ht
  obtain ⟨f2, a2, g1, g2, g3, g4, g5⟩ := y_feed (sc := sc) (d := 6) (f := f1) (a := a1) (j := j) (v := v1) r1.2.2.1 c.2.2.1.2.1
  refine ⟨_, _, _, _, _, _, _, h1, g1, ⟨_, _, _, _, _, _, c1.dn (fun k hk => ⟨g3 k (by omega), g5 k (by omega), rfl⟩), ?_⟩⟩
  obtain ⟨r1, ⟨r2, r3⟩, r5, r6⟩ := r1
  refine ⟨r1.of (g5 86 (by omega)), ⟨by rw [g4 4 (by omega)]; exact r2, fun h i hi => by rw [g5 87 (by omega)]; exact r3 h i hi⟩, g2, fun t ht => ?_⟩
  rw [g5 104 (by omega), g5 105 (by omega)]
  exact r6 t ht
theorem o_10 {sc : Int32 × (Int32 → Int32)} {f : zF} {a : zA} {j : zJ} {σ τ : Nat → Nat} {kb : Bool} {tx : Nat → Nat} {tn : Nat} {T : TS} (c : CI σ τ kb tx tn T f a j) (r : RI σ τ kb tx tn T f a j) : OpI sc 63 145 [] f a j := by
  obtain ⟨f1, a1, h1, h2, h3, h4, h5⟩ := x_read (sc := sc) (d := 3) (f := f) (a := a) (j := j) c.1.1 c.1.2 c.2.2.1.1 c.2.2.1.2
  have r1 := r.up (h5.up (j := j))
  have c1 : CI (rdS tx tn σ).2 τ kb tx 0 T f1 a1 j := by
    obtain ⟨⟨c1, c2⟩, ⟨c3, c4⟩, c7, c8, c9⟩ := c
    refine ⟨⟨h2, h3⟩, ⟨by rw [h5.1 0 (by omega)]; exact c3, wr23 c4 (fun k q hk => h5.1 k (by omega)) (fun k q hk => h5.2 k (by omega))⟩, ⟨⟨h4, fun i hi => absurd hi (by omega)⟩, by omega, fun i hi => absurd hi (by omega)⟩, fun t ht => ?_, c9⟩
    rw [h5.1 (73 + 2 * t) (by omega)]
    exact c8 t ht
  obtain ⟨f2, a2, g1, g2, g3, g4, g5, g6⟩ := y_read (sc := sc) (d := 3) (f := f1) (a := a1) (j := j) r1.1 c.1.2.1.1.1 r1.2.2.1 c.2.2.1.2
  refine ⟨_, _, _, _, _, _, _, h1, g1, ⟨_, _, _, _, _, _, c1.dn (fun k hk => ⟨g4 k (by omega), g6 k (by omega) (by omega), rfl⟩), ?_⟩⟩
  obtain ⟨r1, ⟨r2, r3⟩, r5, r6⟩ := r1
  refine ⟨g2, ⟨by rw [g5 4 (by omega) (by omega) (by omega) (by omega)]; exact r2, fun h i hi => by rw [g6 87 (by omega) (by omega)]; exact r3 h i hi⟩, ⟨g3, fun i hi => absurd hi (by omega)⟩, fun t ht => ?_⟩
  rw [g6 104 (by omega) (by omega), g6 105 (by omega) (by omega)]
  exact r6 t ht
theorem o_11 {sc : Int32 × (Int32 → Int32)} {f : zF} {a : zA} {j : zJ} {σ τ : Nat → Nat} {kb : Bool} {tx : Nat → Nat} {tn : Nat} {T : TS} {v1 : Int32} (c : CI σ τ kb tx tn T f a j) (r : RI σ τ kb tx tn T f a j) : OpI sc 64 146 [.int v1] f a j := by
  obtain ⟨f1, a1, h1, h3⟩ := x_turn (sc := sc) (d := 1) (f := f) (a := a) (j := j) (k := v1) c.1.1 c.1.2
  have c1 := c.ft h3
  have r1 := r.up (h3.w.up (j := j))
  obtain ⟨f2, a2, g1, g2⟩ := y_turn (sc := sc) (d := 1) (f := f1) (a := a1) (j := j) (k := v1) r1.1 c.1.2
  exact ⟨_, _, _, _, _, _, _, h1, g1, ⟨_, _, _, _, _, _, c1.dn g2.w.dn, r1.ft g2⟩⟩
theorem o_12 {sc : Int32 × (Int32 → Int32)} {f : zF} {a : zA} {j : zJ} {σ τ : Nat → Nat} {kb : Bool} {tx : Nat → Nat} {tn : Nat} {T : TS} {v1 : Int32} (c : CI σ τ kb tx tn T f a j) (r : RI σ τ kb tx tn T f a j) : OpI sc 65 147 [.int v1] f a j := by
  obtain ⟨f1, a1, h1, h3⟩ := x_lag (sc := sc) (d := 1) (f := f) (a := a) (j := j) (k := v1) c.1.1 c.1.2
  have c1 := c.ft h3
  have r1 := r.up (h3.w.up (j := j))
  obtain ⟨f2, a2, g1, g2⟩ := y_lag (sc := sc) (d := 1) (f := f1) (a := a1) (j := j) (k := v1) r1.1 c.1.2
  exact ⟨_, _, _, _, _, _, _, h1, g1, ⟨_, _, _, _, _, _, c1.dn g2.w.dn, r1.ft g2⟩⟩
theorem o_13 {sc : Int32 × (Int32 → Int32)} {f : zF} {a : zA} {j : zJ} {σ τ : Nat → Nat} {kb : Bool} {tx : Nat → Nat} {tn : Nat} {T : TS} {v1 : Int32} (c : CI σ τ kb tx tn T f a j) (r : RI σ τ kb tx tn T f a j) : OpI sc 66 148 [.int v1] f a j := by
  obtain ⟨f1, a1, h1, h3⟩ := x_line (sc := sc) (d := 1) (f := f) (a := a) (j := j) (k := v1) c.1.1 c.1.2
  have c1 := c.ft h3
  have r1 := r.up (h3.w.up (j := j))
  obtain ⟨a2, g1, g2⟩ := y_line (sc := sc) (d := 6) (f := f1) (a := a1) (j := j) (k := v1) r1.1 c.1.2
  have g3 : MFW f1 f1 a1 a2 := MFW.a (fun k hk => g2 k (by omega))
  exact ⟨_, _, _, _, _, _, _, h1, g1, ⟨_, _, _, _, _, _, c1.dn g3.dn, r1.fw g3 (r1.1.of (g2 86 (by omega)))⟩⟩
theorem o_14 {sc : Int32 × (Int32 → Int32)} {f : zF} {a : zA} {j : zJ} {σ τ : Nat → Nat} {kb : Bool} {tx : Nat → Nat} {tn : Nat} {T : TS} {v1 : Int32} (c : CI σ τ kb tx tn T f a j) (r : RI σ τ kb tx tn T f a j) : OpI sc 67 149 [.int v1] f a j := by
  obtain ⟨w, f1, a1, h1, h2, h3⟩ := x_who (sc := sc) (d := 1) (f := f) (a := a) (j := j) (t := v1) c.1.1 c.1.2
  have c1 := c.ft h3
  have r1 := r.up (h3.w.up (j := j))
  obtain ⟨w2, f2, a2, g1, g2, g3⟩ := y_who (sc := sc) (d := 1) (f := f1) (a := a1) (j := j) (t := v1) r1.1 c.1.2
  have ew : w2 = w := by
    by_cases q : zBtw v1 0 95
    · rw [if_pos q] at h2 g2
      exact g2.uniq h2
    · rw [if_neg q] at h2 g2
      rw [h2, g2]
  rw [ew] at g1
  exact ⟨_, _, _, _, _, _, _, h1, g1, ⟨_, _, _, _, _, _, c1.dn g3.w.dn, r1.ft g3⟩⟩
theorem o_15 {sc : Int32 × (Int32 → Int32)} {f : zF} {a : zA} {j : zJ} {σ τ : Nat → Nat} {kb : Bool} {tx : Nat → Nat} {tn : Nat} {T : TS} {v1 v2 : Int32} (c : CI σ τ kb tx tn T f a j) (r : RI σ τ kb tx tn T f a j) : OpI sc 68 150 [.int v1, .int v2] f a j := by
  obtain ⟨f1, a1, h1, h3⟩ := x_shared (sc := sc) (d := 5) (f := f) (a := a) (j := j) (n := v1) (v := v2) c.1.1 c.1.2
  have c1 := c.ft h3
  have r1 := r.up (h3.w.up (j := j))
  obtain ⟨a2, g1, g2⟩ := y_shared (sc := sc) (d := 5) (f := f1) (a := a1) (j := j) (n := v1) (v := v2) r1.1 c.1.2
  have g3 : MFW f1 f1 a1 a2 := MFW.a (fun k hk => g2 k (by omega) (by omega))
  exact ⟨_, _, _, _, _, _, _, h1, g1, ⟨_, _, _, _, _, _, c1.dn g3.dn, r1.fw g3 (r1.1.of (g2 86 (by omega) (by omega)))⟩⟩
theorem o_16 {sc : Int32 × (Int32 → Int32)} {f : zF} {a : zA} {j : zJ} {σ τ : Nat → Nat} {kb : Bool} {tx : Nat → Nat} {tn : Nat} {T : TS} {v1 : Int32} (c : CI σ τ kb tx tn T f a j) (r : RI σ τ kb tx tn T f a j) : OpI sc 69 152 [.int v1] f a j := by
  obtain ⟨f1, a1, h1, h3⟩ := x_told (sc := sc) (d := 0) (f := f) (a := a) (j := j) (what := v1) c.1.1 c.1.2
  have c1 := c.ft h3
  have r1 := r.up (h3.w.up (j := j))
  obtain ⟨f2, a2, g1, g2, g3⟩ := y_told (sc := sc) (d := 1) (f := f1) (a := a1) (j := j) (what := v1) r1.1 c.1.2
  exact ⟨_, _, _, _, _, _, _, h1, g1, ⟨_, _, _, _, _, _, c1.dn g3.dn, r1.fw g3 g2⟩⟩
theorem o_17 {sc : Int32 × (Int32 → Int32)} {f : zF} {a : zA} {j : zJ} {σ τ : Nat → Nat} {kb : Bool} {tx : Nat → Nat} {tn : Nat} {T : TS} {v1 v2 v3 : Int32} (c : CI σ τ kb tx tn T f a j) (r : RI σ τ kb tx tn T f a j) : OpI sc 70 153 [.int v1, .int v2, .int v3] f a j := by
  obtain ⟨f1, a1, h1, h2, h3, h4⟩ := x_trade (sc := sc) (d := 1) (f := f) (a := a) (j := j) (x := v1) (y := v2) (h := v3) c.1.1 c.1.2
  have c1 := c.fw h4 h2 h3
  have r1 := r.up (h4.up (j := j))
  obtain ⟨f2, a2, g1, g2, g3⟩ := y_trade (sc := sc) (d := 1) (f := f1) (a := a1) (j := j) (x := v1) (y := v2) (h := v3) r1.1 c.1.2
  exact ⟨_, _, _, _, _, _, _, h1, g1, ⟨_, _, _, _, _, _, c1.dn g3.dn, r1.fw g3 g2⟩⟩
theorem o_18 {sc : Int32 × (Int32 → Int32)} {f : zF} {a : zA} {j : zJ} {σ τ : Nat → Nat} {kb : Bool} {tx : Nat → Nat} {tn : Nat} {T : TS} (c : CI σ τ kb tx tn T f a j) (r : RI σ τ kb tx tn T f a j) : OpI sc 71 154 [] f a j := by
  obtain ⟨f1, a1, h1, h2, h3, h4⟩ := x_undoTrade (sc := sc) (d := 7) (f := f) (a := a) (j := j)  c.1.1 c.1.2
  have c1 := c.fw h4 h2 h3
  have r1 := r.up (h4.up (j := j))
  obtain ⟨a2, g1, g2, g3⟩ := y_undoTrade (sc := sc) (d := 7) (f := f1) (a := a1) (j := j)  r1.1 c.1.2.2.1.1
  exact ⟨_, _, _, _, _, _, _, h1, g1, ⟨_, _, _, _, _, _, c1.dn (MFW.of86 (f := f1) g3).dn, r1.fw (MFW.of86 g3) g2⟩⟩
theorem o_19 {sc : Int32 × (Int32 → Int32)} {f : zF} {a : zA} {j : zJ} {σ τ : Nat → Nat} {kb : Bool} {tx : Nat → Nat} {tn : Nat} {T : TS} {v1 v2 : Int32} (c : CI σ τ kb tx tn T f a j) (r : RI σ τ kb tx tn T f a j) : OpI sc 72 155 [.int v1, .int v2] f a j := by
  have h1 := x_tradeOf (sc := sc) (d := 6) (f := f) (a := a) (j := j) (v := v1) (what := v2) c.1.1 c.1.2
  have g1 := y_tradeOf (sc := sc) (d := 6) (f := f) (a := a) (j := j) (v := v1) (w := v2) r.1 c.1.2.2.1.1
  exact ⟨_, _, _, _, _, _, _, h1, g1, ⟨_, _, _, _, _, _, c, r⟩⟩
theorem o_20 {sc : Int32 × (Int32 → Int32)} {f : zF} {a : zA} {j : zJ} {σ τ : Nat → Nat} {kb : Bool} {tx : Nat → Nat} {tn : Nat} {T : TS} {v1 : Int32} (c : CI σ τ kb tx tn T f a j) (r : RI σ τ kb tx tn T f a j) : OpI sc 73 156 [.int v1] f a j := by
  have h1 := x_chain (sc := sc) (d := 5) (f := f) (a := a) (j := j) (v := v1) c.1.1 c.1.2
  have g1 := y_chain (sc := sc) (d := 5) (f := f) (a := a) (j := j) (v := v1) r.1 c.1.2.1.1.1 c.1.2.2.1
  exact ⟨_, _, _, _, _, _, _, h1, g1, ⟨_, _, _, _, _, _, c, r⟩⟩
theorem o_21 {sc : Int32 × (Int32 → Int32)} {f : zF} {a : zA} {j : zJ} {σ τ : Nat → Nat} {kb : Bool} {tx : Nat → Nat} {tn : Nat} {T : TS} {v1 v2 v3 : Int32} (c : CI σ τ kb tx tn T f a j) (r : RI σ τ kb tx tn T f a j) : OpI sc 74 157 [.int v1, .int v2, .int v3] f a j := by
  obtain ⟨f1, a1, h1, h3⟩ := x_over (sc := sc) (d := 2) (f := f) (a := a) (j := j) (v := v1) (n := v2) (what := v3) c.1.1 c.1.2
  have c1 := c.ft h3
  have r1 := r.up (h3.w.up (j := j))
  obtain ⟨f2, a2, g1, g2⟩ := y_over (sc := sc) (d := 2) (f := f1) (a := a1) (j := j) (v := v1) (n := v2) (what := v3) r1.1 c.1.2
  exact ⟨_, _, _, _, _, _, _, h1, g1, ⟨_, _, _, _, _, _, c1.dn g2.w.dn, r1.ft g2⟩⟩
theorem o_22 {sc : Int32 × (Int32 → Int32)} {f : zF} {a : zA} {j : zJ} {σ τ : Nat → Nat} {kb : Bool} {tx : Nat → Nat} {tn : Nat} {T : TS} {v1 : Int32} (c : CI σ τ kb tx tn T f a j) (r : RI σ τ kb tx tn T f a j) : OpI sc 75 159 [.int v1] f a j := by
  obtain ⟨f1, a1, h1, h3⟩ := x_uneven (sc := sc) (d := 1) (f := f) (a := a) (j := j) (n := v1) c.1.1 c.1.2
  have c1 := c.ft h3
  have r1 := r.up (h3.w.up (j := j))
  obtain ⟨f2, a2, g1, g2⟩ := y_uneven (sc := sc) (d := 1) (f := f1) (a := a1) (j := j) (n := v1) r1.1 c.1.2
  exact ⟨_, _, _, _, _, _, _, h1, g1, ⟨_, _, _, _, _, _, c1.dn g2.w.dn, r1.fg g2⟩⟩
theorem o_23 {sc : Int32 × (Int32 → Int32)} {f : zF} {a : zA} {j : zJ} {σ τ : Nat → Nat} {kb : Bool} {tx : Nat → Nat} {tn : Nat} {T : TS} {v1 : Int32} (c : CI σ τ kb tx tn T f a j) (r : RI σ τ kb tx tn T f a j) : OpI sc 76 160 [.int v1] f a j := by
  obtain ⟨f1, a1, h1, h3⟩ := x_evenest (sc := sc) (d := 1) (f := f) (a := a) (j := j) (n := v1) c.1.1 c.1.2
  have c1 := c.ft h3
  have r1 := r.up (h3.w.up (j := j))
  obtain ⟨f2, a2, g1, g2, g3⟩ := y_evenest (sc := sc) (d := 1) (f := f1) (a := a1) (j := j) (n := v1) r1.1 c.1.2
  exact ⟨_, _, _, _, _, _, _, h1, g1, ⟨_, _, _, _, _, _, c1.dn g3.dn, r1.fw g3 g2⟩⟩
theorem o_24 {sc : Int32 × (Int32 → Int32)} {f : zF} {a : zA} {j : zJ} {σ τ : Nat → Nat} {kb : Bool} {tx : Nat → Nat} {tn : Nat} {T : TS} {v1 v2 : Int32} (c : CI σ τ kb tx tn T f a j) (r : RI σ τ kb tx tn T f a j) : OpI sc 77 161 [.int v1, .int v2] f a j := by
  obtain ⟨f1, a1, h1, h2, h3, h4⟩ := x_see (sc := sc) (d := 4) (f := f) (a := a) (j := j) (v := v1) (h := v2) c.1.1 c.1.2
  have c1 := c.fw h4 h2 h3
  have r1 := r.up (h4.up (j := j))
  obtain ⟨a2, g1, g2, g3⟩ := y_see (sc := sc) (d := 5) (f := f1) (a := a1) (j := j) (v := v1) (h := v2) r1.1 c.1.2.1.1.1 c.1.2.2.2.1.1
  exact ⟨_, _, _, _, _, _, _, h1, g1, ⟨_, _, _, _, _, _, c1.dn (MFW.of86 (f := f1) g3).dn, r1.fw (MFW.of86 g3) g2⟩⟩
theorem o_25 {sc : Int32 × (Int32 → Int32)} {f : zF} {a : zA} {j : zJ} {σ τ : Nat → Nat} {kb : Bool} {tx : Nat → Nat} {tn : Nat} {T : TS} {v1 : Int32} (c : CI σ τ kb tx tn T f a j) (r : RI σ τ kb tx tn T f a j) : OpI sc 78 163 [.int v1] f a j := by
  obtain ⟨f1, a1, h1, h3⟩ := x_fits (sc := sc) (d := 1) (f := f) (a := a) (j := j) (what := v1) c.1.1 c.1.2
  have c1 := c.ft h3
  have r1 := r.up (h3.w.up (j := j))
  obtain ⟨f2, a2, g1, g2, g3⟩ := y_fits (sc := sc) (d := 1) (f := f1) (a := a1) (j := j) (what := v1) r1.1 c.1.2
  exact ⟨_, _, _, _, _, _, _, h1, g1, ⟨_, _, _, _, _, _, c1.dn g3.dn, r1.fw g3 g2⟩⟩
theorem o_26 {sc : Int32 × (Int32 → Int32)} {f : zF} {a : zA} {j : zJ} {σ τ : Nat → Nat} {kb : Bool} {tx : Nat → Nat} {tn : Nat} {T : TS} {v1 v2 : Int32} (c : CI σ τ kb tx tn T f a j) (r : RI σ τ kb tx tn T f a j) : OpL sc 79 165 [.int v1, .int v2] f a j := by
  obtain ⟨f1, a1, h1, h3⟩ := x_odds (sc := sc) (d := 1) (f := f) (a := a) (j := j) (v := v1) (part := v2) c.1.1 c.1.2
  have c1 := c.ft h3
  have r1 := r.up (h3.w.up (j := j))
  obtain ⟨f2, a2, g1, g2, g3⟩ := y_odds (sc := sc) (d := 2) (f := f1) (a := a1) (j := j) (v := v1) (part := v2) r1.1 c.1.2
  exact ⟨_, _, _, _, _, _, _, h1, g1, ⟨_, _, _, _, _, _, c1.dn g3.dn, r1.fw g3 g2⟩⟩
theorem o_27 {sc : Int32 × (Int32 → Int32)} {f : zF} {a : zA} {j : zJ} {σ τ : Nat → Nat} {kb : Bool} {tx : Nat → Nat} {tn : Nat} {T : TS} {v1 : Int32} (c : CI σ τ kb tx tn T f a j) (r : RI σ τ kb tx tn T f a j) : OpL sc 80 166 [.int v1] f a j := by
  obtain ⟨f1, a1, h1, h3⟩ := x_mean (sc := sc) (d := 1) (f := f) (a := a) (j := j) (part := v1) c.1.1 c.1.2
  have c1 := c.ft h3
  have r1 := r.up (h3.w.up (j := j))
  obtain ⟨f2, a2, g1, g2⟩ := y_mean (sc := sc) (d := 1) (f := f1) (a := a1) (j := j) (part := v1) r1.1 c.1.2
  exact ⟨_, _, _, _, _, _, _, h1, g1, ⟨_, _, _, _, _, _, c1.dn g2.w.dn, r1.ft g2⟩⟩
theorem o_28 {sc : Int32 × (Int32 → Int32)} {f : zF} {a : zA} {j : zJ} {σ τ : Nat → Nat} {kb : Bool} {tx : Nat → Nat} {tn : Nat} {T : TS} {v1 v2 : Int32} (c : CI σ τ kb tx tn T f a j) (r : RI σ τ kb tx tn T f a j) : OpI sc 81 167 [.int v1, .int v2] f a j := by
  obtain ⟨f1, a1, h1, h2, h3, h4⟩ := x_plan (sc := sc) (d := 5) (f := f) (a := a) (j := j) (w := v1) (n := v2) c.1.1 c.1.2
  have c1 := c.fw h4 h2 h3
  have r1 := r.up (h4.up (j := j))
  obtain ⟨a2, g1, g2, g3⟩ := y_plan (sc := sc) (d := 5) (f := f1) (a := a1) (j := j) (w := v1) (n := v2) r1.1 c.1.2.1.1.1 c.1.2.2.2.2.1.1
  exact ⟨_, _, _, _, _, _, _, h1, g1, ⟨_, _, _, _, _, _, c1.dn (MFW.of86 (f := f1) g3).dn, r1.fw (MFW.of86 g3) g2⟩⟩
theorem o_29 {sc : Int32 × (Int32 → Int32)} {f : zF} {a : zA} {j : zJ} {σ τ : Nat → Nat} {kb : Bool} {tx : Nat → Nat} {tn : Nat} {T : TS} {v1 : Int32} (c : CI σ τ kb tx tn T f a j) (r : RI σ τ kb tx tn T f a j) : OpI sc 82 169 [.int v1] f a j := by
  obtain ⟨f1, a1, h1, h3⟩ := x_ends (sc := sc) (d := 1) (f := f) (a := a) (j := j) (what := v1) c.1.1 c.1.2
  have c1 := c.fe h3
  have r1 := r.up (h3.w.up (j := j))
  obtain ⟨f2, a2, g1, g2, g3⟩ := y_ends (sc := sc) (d := 1) (f := f1) (a := a1) (j := j) (what := v1) r1.1 c.1.2
  exact ⟨_, _, _, _, _, _, _, h1, g1, ⟨_, _, _, _, _, _, c1.dn g3.dn, r1.fw g3 g2⟩⟩
theorem o_30 {sc : Int32 × (Int32 → Int32)} {f : zF} {a : zA} {j : zJ} {σ τ : Nat → Nat} {kb : Bool} {tx : Nat → Nat} {tn : Nat} {T : TS} {v1 v2 : Int32} (c : CI σ τ kb tx tn T f a j) (r : RI σ τ kb tx tn T f a j) : OpI sc 83 170 [.int v1, .int v2] f a j := by
  obtain ⟨f1, a1, h1, h2, h3, h4⟩ := x_book (sc := sc) (d := 4) (f := f) (a := a) (j := j) (v := v1) (h := v2) c.1.1 c.1.2
  have c1 := c.fw h4 h2 h3
  have r1 := r.up (h4.up (j := j))
  obtain ⟨a2, g1, g2, g3⟩ := y_book (sc := sc) (d := 5) (f := f1) (a := a1) (j := j) (v := v1) (h := v2) r1.1 c.1.2.1.1.1 c.1.2.2.2.2.2.1
  exact ⟨_, _, _, _, _, _, _, h1, g1, ⟨_, _, _, _, _, _, c1.dn (MFW.of86 (f := f1) g3).dn, r1.fw (MFW.of86 g3) g2⟩⟩
theorem o_31 {sc : Int32 × (Int32 → Int32)} {f : zF} {a : zA} {j : zJ} {σ τ : Nat → Nat} {kb : Bool} {tx : Nat → Nat} {tn : Nat} {T : TS} (c : CI σ τ kb tx tn T f a j) (r : RI σ τ kb tx tn T f a j) : OpI sc 84 171 [] f a j := by
  obtain ⟨f1, a1, h1, h3⟩ := x_looked (sc := sc) (d := 1) (f := f) (a := a) (j := j)  c.1.1 c.1.2
  have c1 := c.ft h3
  have r1 := r.up (h3.w.up (j := j))
  obtain ⟨f2, a2, g1, g2⟩ := y_looked (sc := sc) (d := 1) (f := f1) (a := a1) (j := j)  r1.1 c.1.2
  exact ⟨_, _, _, _, _, _, _, h1, g1, ⟨_, _, _, _, _, _, c1.dn g2.w.dn, r1.ft g2⟩⟩
theorem o_32 {sc : Int32 × (Int32 → Int32)} {f : zF} {a : zA} {j : zJ} {σ τ : Nat → Nat} {kb : Bool} {tx : Nat → Nat} {tn : Nat} {T : TS} {v1 v2 : Int32} (c : CI σ τ kb tx tn T f a j) (r : RI σ τ kb tx tn T f a j) : OpI sc 85 172 [.int v1, .int v2] f a j := by
  obtain ⟨f1, a1, h1, h3⟩ := x_judge (sc := sc) (d := 1) (f := f) (a := a) (j := j) (v := v1) (i := v2) c.1.1 c.1.2 c.2.2.2.1 c.2.2.2.2
  have c1 := c.ft h3
  have r1 := r.up (h3.w.up (j := j))
  obtain ⟨f2, a2, g1, g2⟩ := y_judge (sc := sc) (d := 1) (f := f1) (a := a1) (j := j) (v := v1) (i := v2) r1.1 c.1.2 r1.2.2.2 c.2.2.2.2
  exact ⟨_, _, _, _, _, _, _, h1, g1, ⟨_, _, _, _, _, _, c1.dn g2.w.dn, r1.ft g2⟩⟩
theorem o_33 {sc : Int32 × (Int32 → Int32)} {f : zF} {a : zA} {j : zJ} {σ τ : Nat → Nat} {kb : Bool} {tx : Nat → Nat} {tn : Nat} {T : TS} (c : CI σ τ kb tx tn T f a j) (r : RI σ τ kb tx tn T f a j) : OpI sc 86 173 [] f a j := by
  obtain ⟨f1, a1, h1, h2, h3, h4, h5, h6, h7⟩ := x_image (sc := sc) (d := 3) (f := f) (a := a) (j := j) c.1.1 c.1.2
  have r1 := r.up (f' := f1) (a' := a1) (j' := j) (fun k hk => ⟨h5 k (by omega) (by omega), h7 k (by omega), rfl⟩)
  have c1 : CI σ σ true tx tn T f1 a1 j := by
    obtain ⟨⟨c1, c2⟩, ⟨c3, c4⟩, ⟨⟨c5, c6⟩, c7⟩, c8, c9⟩ := c
    refine ⟨⟨h2, c2⟩, ⟨h4, fun _ => ⟨h3, c2⟩⟩, ⟨⟨by rw [h5 65 (by omega) (by omega)]; exact c5, fun i hi => by rw [h7 66 (by omega)]; exact c6 i hi⟩, c7⟩, fun t ht => ?_, c9⟩
    rw [h5 (73 + 2 * t) (by omega) (by omega)]
    exact c8 t ht
  obtain ⟨a2, g1, g2, g3, g4⟩ := y_image (sc := sc) (d := 6) (f := f1) (a := a1) (j := j) r1.1
  refine ⟨_, _, _, _, _, _, _, h1, g1, ⟨_, _, _, _, _, _, c1.dn (fun k hk => ⟨zuF_nk (by omega), g4 k (by omega), rfl⟩), ?_⟩⟩
  obtain ⟨r1, ⟨r2, r3⟩, ⟨r4, r5⟩, r6⟩ := r1
  refine ⟨g2, ⟨zuF_eq, fun _ => g3⟩, ⟨by rw [zuF_ni (by omega)]; exact r4, fun i hi => by rw [g4 98 (by omega)]; exact r5 i hi⟩, fun t ht => ?_⟩
  rw [g4 104 (by omega), g4 105 (by omega)]
  exact r6 t ht
theorem o_34 {sc : Int32 × (Int32 → Int32)} {f : zF} {a : zA} {j : zJ} {σ τ : Nat → Nat} {kb : Bool} {tx : Nat → Nat} {tn : Nat} {T : TS} (c : CI σ τ kb tx tn T f a j) (r : RI σ τ kb tx tn T f a j) : OpI sc 87 174 [] f a j := by
  obtain ⟨f1, a1, h1, h2, h3, h4⟩ := x_undo (sc := sc) (d := 3) (f := f) (a := a) (j := j)  c.1.1 c.1.2 c.2.1.1 c.2.1.2
  have c1 := c.fw h4 h2 h3
  have r1 := r.up (h4.up (j := j))
  obtain ⟨a2, g1, g2, g3⟩ := y_undo (sc := sc) (d := 6) (f := f1) (a := a1) (j := j)  r1.1 r1.2.1
  exact ⟨_, _, _, _, _, _, _, h1, g1, ⟨_, _, _, _, _, _, c1.dn (MFW.of86 (f := f1) g3).dn, r1.fw (MFW.of86 g3) g2⟩⟩
theorem o_35 {sc : Int32 × (Int32 → Int32)} {f : zF} {a : zA} {j : zJ} {σ τ : Nat → Nat} {kb : Bool} {tx : Nat → Nat} {tn : Nat} {T : TS} {v1 : Int32} (c : CI σ τ kb tx tn T f a j) (r : RI σ τ kb tx tn T f a j) : OpI sc 88 175 [.int v1] f a j := by
  have h1 := x_count (sc := sc) (d := 7) (f := f) (a := a) (j := j) (what := v1) c.1.1 c.2.2.1.1.1
  have g1 := y_count (sc := sc) (d := 7) (f := f) (a := a) (j := j) (w := v1) r.1 r.2.2.1.1
  exact ⟨_, _, _, _, _, _, _, h1, g1, ⟨_, _, _, _, _, _, c, r⟩⟩
theorem o_36 {sc : Int32 × (Int32 → Int32)} {f : zF} {a : zA} {j : zJ} {σ τ : Nat → Nat} {kb : Bool} {tx : Nat → Nat} {tn : Nat} {T : TS} {v1 v2 v3 : Int32} (c : CI σ τ kb tx tn T f a j) (r : RI σ τ kb tx tn T f a j) : OpI sc 89 177 [.int v1, .int v2, .int v3] f a j := by
  obtain ⟨f1, j1, h1, h2, h3, h4⟩ := x_tape (sc := sc) (d := 5) (f := f) (a := a) (j := j) (v := v1) (s := v2) (n := v3) c.2.2.2.1 c.2.2.2.2
  have c1 := c.fp h4 h2 h3
  have r1 := r.up (h4.up (a := a))
  obtain ⟨a2, j2, g1, g2, g3, g4⟩ := y_tape (sc := sc) (d := 5) (f := f1) (a := a) (j := j1) (v := v1) (s := v2) (n := v3) r1.2.2.2 c.2.2.2.2
  refine ⟨_, _, _, _, _, _, _, h1, g1, ⟨_, _, _, _, _, _, c1.dn (fun k hk => ⟨rfl, g3 k (by omega) (by omega), g4 k (by omega)⟩), ?_⟩⟩
  obtain ⟨r1, ⟨r2, r3⟩, ⟨r4, r5⟩, r6⟩ := r1
  exact ⟨r1.of (g3 86 (by omega) (by omega)), ⟨r2, fun h i hi => by rw [g3 87 (by omega) (by omega)]; exact r3 h i hi⟩, ⟨r4, fun i hi => by rw [g3 98 (by omega) (by omega)]; exact r5 i hi⟩, g2⟩
theorem o_37 {sc : Int32 × (Int32 → Int32)} {f : zF} {a : zA} {j : zJ} {σ τ : Nat → Nat} {kb : Bool} {tx : Nat → Nat} {tn : Nat} {T : TS} {v1 v2 : Int32} {v3 : Int64} (c : CI σ τ kb tx tn T f a j) (r : RI σ τ kb tx tn T f a j) : OpI sc 90 178 [.int v1, .int v2, .long v3] f a j := by
  obtain ⟨j1, h1, h2, h3, h4⟩ := x_item (sc := sc) (d := 5) (f := f) (a := a) (j := j) (v := v1) (i := v2) (x := v3) c.2.2.2.1 c.2.2.2.2
  have c1 := c.fp h4 h2 h3
  have r1 := r.up (h4.up (a := a))
  obtain ⟨j2, g1, g2, g3⟩ := y_item (sc := sc) (d := 5) (f := f) (a := a) (j := j1) (v := v1) (i := v2) (x := v3) r1.2.2.2 c.2.2.2.2
  refine ⟨_, _, _, _, _, _, _, h1, g1, ⟨_, _, _, _, _, _, c1.dn (fun k hk => ⟨rfl, rfl, g3 k (by omega)⟩), ?_⟩⟩
  exact ⟨r1.1, r1.2.1, r1.2.2.1, g2⟩
theorem o_38 {sc : Int32 × (Int32 → Int32)} {f : zF} {a : zA} {j : zJ} {σ τ : Nat → Nat} {kb : Bool} {tx : Nat → Nat} {tn : Nat} {T : TS} {v1 v2 : Int32} (c : CI σ τ kb tx tn T f a j) (r : RI σ τ kb tx tn T f a j) : OpL sc 91 179 [.int v1, .int v2] f a j := by
  have h1 := x_peek (sc := sc) (d := 5) (f := f) (a := a) (j := j) (v := v1) (i := v2) c.2.2.2.1 c.2.2.2.2
  have g1 := y_peek (sc := sc) (d := 5) (f := f) (a := a) (j := j) (v := v1) (i := v2) r.2.2.2 c.2.2.2.2
  exact ⟨_, _, _, _, _, _, _, h1, g1, ⟨_, _, _, _, _, _, c, r⟩⟩
theorem o_39 {sc : Int32 × (Int32 → Int32)} {f : zF} {a : zA} {j : zJ} {σ τ : Nat → Nat} {kb : Bool} {tx : Nat → Nat} {tn : Nat} {T : TS} {v1 v2 v3 v4 v5 : Int32} (c : CI σ τ kb tx tn T f a j) (r : RI σ τ kb tx tn T f a j) : OpI sc 92 180 [.int v1, .int v2, .int v3, .int v4, .int v5] f a j := by
  obtain ⟨j1, h1, h2, h3, h4⟩ := x_shift (sc := sc) (d := 5) (f := f) (a := a) (j := j) (v := v1) (i := v2) (w := v3) (k := v4) (n := v5) c.2.2.2.1 c.2.2.2.2
  have c1 := c.fp h4 h2 h3
  have r1 := r.up (h4.up (a := a))
  obtain ⟨j2, g1, g2, g3⟩ := y_shift (sc := sc) (d := 5) (f := f) (a := a) (j := j1) (v := v1) (i := v2) (w := v3) (k := v4) (n := v5) r1.2.2.2 c.2.2.2.2
  refine ⟨_, _, _, _, _, _, _, h1, g1, ⟨_, _, _, _, _, _, c1.dn (fun k hk => ⟨rfl, rfl, g3 k (by omega)⟩), ?_⟩⟩
  exact ⟨r1.1, r1.2.1, r1.2.2.1, g2⟩
