/-! ===== THE CONSTRUCTORS' MACHINE IS THE MACHINE ===== -/
def kCx (p : Program) (l : Launch) (R : Room) (s : State) (m : MethodId) (args : Array Value) (meth : Method) (c : Code) (G : Nat → List Value → List kC → Option (List kC)) (n b bs : Nat) (D : va_G) (cs : Nat → ClassId) : Prop :=
  n < 9 ∧ p.tables.exec = Jvm.exec ∧ c.code = kCo n ∧ c.maxLocals = zMx (kYy n) ∧ s.vm.findClass (kY n).cls = some m.cls ∧ (n ≠ 0 → meth.name = "<init>") ∧ (∀ w ∈ zTab, w.before args s = true) ∧ va_K D zvCl (zTy cs) s ∧ (∀ w ∈ zNest, va_Nw w s) ∧ (va_AO RX3 s ∧ kAO s) ∧
  (∀ (n' : Nat) (vs : List Value) (X X' : List kC), G n' vs X = some X' → kMet l b bs D cs n' vs X X') ∧ (kD n ≤ R.frames ∧ 37 * kD n ≤ R.locals ∧ kMc n ≤ R.cells ∧ kMs n ≤ R.slots)
theorem kNoL {n r : Nat} (h : n < 9) : zNoL (kYy n) r = true := by
  unfold zNoL
  rw [kLg_all n h]
  rfl
theorem kYok_use {n : Nat} (h : kYok n = true) : Cond.code (kY n) (kCo n) (zMx (kYy n)) none ∈ zTab ∧ Cond.instanceMethod (kY n) ∈ zTab ∧ Cond.initialized (kY n).cls ∈ zTab ∧ ((kY n).cls ≠ "java/lang/invoke/MethodHandle" ∧ (kY n).cls ≠ "java/lang/invoke/VarHandle") ∧ (parseMethodDescriptor (kY n).desc).map (fun d => d.parameters.length) = some (kNp n) ∧ zMx (kYy n) ≤ 18 ∧ plainFor (kY n) = true ∧ (kY n).name = "<init>" ∧ kNp n + 1 ≤ zMx (kYy n) := by
  unfold kYok at h
  split at h
  rename_i p1 p2 p3 hp
  simp only [Bool.and_eq_true, decide_eq_true_eq] at h
  obtain ⟨h1, h2, h3, h4, h5, h6, h7, h8, h9, h10⟩ := h
  exact ⟨zTab_of h1 rfl, zTab_of h2 rfl, zTab_of h3 rfl, ⟨h4, h5⟩, h6, h7, h8, h9, h10⟩
theorem kGood {n : Nat} (h : kYok n = true) : GoodIn zTab (kWs n) := by
  intro w hw
  rcases List.mem_cons.mp hw with rfl | hw
  · exact ⟨(kYok_use h).1, zTab_good (kYok_use h).1⟩
  · exact ⟨hw, zTab_good hw⟩
theorem kObj_inst : Cond.instanceMethod Lib.objectInit ∈ zTab := zTab_of (i := 69) (by decide +kernel) rfl
theorem kObj_code : Cond.code Lib.objectInit ⟨#[0xb1]⟩ 1 none ∈ zTab := zTab_of (i := 70) (by decide +kernel) rfl
theorem kMax_stat : Cond.static Lib.Math.max.name ∈ zTab := zTab_of (i := 90) (by decide +kernel) rfl
theorem kMax_code : Cond.code Lib.Math.max.name Lib.Math.max.code 2 (some .int) ∈ zTab := zTab_of (i := 91) (by decide +kernel) rfl
theorem kMax_ini : Cond.initialized "java/lang/Math" ∈ zTab := zTab_of (i := 57) (by decide +kernel) rfl
theorem kKd_all : ∀ n, n < 9 → 1 ≤ kD n := by decide
set_option maxHeartbeats 4000000 in
set_option maxRecDepth 100000 in
theorem kIns_ok {p : Program} {l : Launch} {e : Env} {R : Room} {s : State} {m : MethodId} {args : Array Value} {below : List Frame} {meth : Method} {c : Code} {H : Heap} {locs : List Loc} {cells slots : Nat} {Q : State → Prop} {G : Nat → List Value → List kC → Option (List kC)} {n b bs : Nat} {D : va_G} {cs : Nat → ClassId} {H0 : Heap} (C : kCx p l R s m args meth c G n b bs D cs)
    {ins : Instr} {pc len r1 r2 r3 : Nat} {vi : Int32} (hdec : decode (kCo n) pc = .ok (ins, len)) (hok : kOkI n ins pc len r1 r2 r3 vi = true) {ls st : List Value} {X : List kC} {lsA : Array Slot}
    (hP : kP b bs D cs X H) (hS : va_S (kA b) H0 H locs) (hl : zLoc b bs (kYy n) lsA ls) {pc' : Nat} {ls' st' : List Value} {X' : List kC} {cells' slots' : Nat} (hi : kIns G n ins (pc + len) r1 r2 vi ls st X cells slots = some (.inr (pc', ls', st', X', cells', slots')))
    (kk : ∀ (H1 : Heap) (locs1 : List Loc) (lsA1 : Array Slot), kP b bs D cs X' H1 → va_S (kA b) H0 H1 locs1 → zLoc b bs (kYy n) lsA1 ls' → W p l e R s m args below meth c H1 locs1 cells' slots' Q (F0 m pc' lsA1 (st'.map (zV b bs)))) : W p l e R s m args below meth c H locs cells slots Q (F0 m pc lsA (st.map (zV b bs))) := by
  obtain ⟨hn9, hx, hb, hml, hown, hnm, hts, hK, hN, ⟨hO, hO2⟩, hG, ⟨hRf, hRl, hRc, hRs⟩⟩ := C
  have h0 := hl.1.2.2
  have hkd := kKd_all n hn9
  cases ins with
  | iconst z =>
    dsimp only [kIns] at hi
    simp only [kGo, Option.some.injEq, Sum.inr.injEq, Prod.mk.injEq] at hi
    obtain ⟨rfl, rfl, rfl, rfl, rfl, rfl⟩ := hi
    simp only [kOkI, Bool.and_eq_true, decide_eq_true_eq, Nat.beq_eq] at hok
    obtain ⟨rfl, hv⟩ := hok
    exact lv_iconst hx hb hdec hv (kk H locs lsA hP hS hl)
  | bipush z =>
    dsimp only [kIns] at hi
    simp only [kGo, Option.some.injEq, Sum.inr.injEq, Prod.mk.injEq] at hi
    obtain ⟨rfl, rfl, rfl, rfl, rfl, rfl⟩ := hi
    simp only [kOkI, Bool.and_eq_true, decide_eq_true_eq, Nat.beq_eq] at hok
    obtain ⟨rfl, hv⟩ := hok
    exact lv_bipush hx hb hdec hv (kk H locs lsA hP hS hl)
  | sipush z =>
    dsimp only [kIns] at hi
    simp only [kGo, Option.some.injEq, Sum.inr.injEq, Prod.mk.injEq] at hi
    obtain ⟨rfl, rfl, rfl, rfl, rfl, rfl⟩ := hi
    simp only [kOkI, Bool.and_eq_true, decide_eq_true_eq, Nat.beq_eq] at hok
    obtain ⟨rfl, hv⟩ := hok
    exact lv_sipush hx hb hdec hv (kk H locs lsA hP hS hl)
  | iload_n z =>
    dsimp only [kIns] at hi
    split at hi
    · rename_i heq
      simp only [kGo, Option.some.injEq, Sum.inr.injEq, Prod.mk.injEq] at hi
      obtain ⟨rfl, rfl, rfl, rfl, rfl, rfl⟩ := hi
      simp only [kOkI, Bool.and_eq_true, decide_eq_true_eq, Nat.beq_eq] at hok
      obtain ⟨rfl, hv⟩ := hok
      exact lv_iload_n hx hb hdec hv (h0 _ _ heq (fun q => by cases q)) (kk H locs lsA hP hS hl)
    · cases hi
  | aload_n z =>
    dsimp only [kIns] at hi
    split at hi
    · rename_i x heq
      simp only [kGo, Option.some.injEq, Sum.inr.injEq, Prod.mk.injEq] at hi
      obtain ⟨rfl, rfl, rfl, rfl, rfl, rfl⟩ := hi
      simp only [kOkI, Bool.and_eq_true, decide_eq_true_eq, Nat.beq_eq] at hok
      obtain ⟨rfl, hv⟩ := hok
      have h9 := h0 _ _ heq (fun q => by cases q)
      have kk9 := kk H locs lsA hP hS hl
      rw [List.map_cons] at kk9
      rcases zV_ref b bs x with e9 | ⟨x9, e9⟩
      · rw [e9] at h9 kk9
        exact zn_aload_n hx hb hdec hv h9 kk9
      · rw [e9] at h9 kk9
        exact lv_aload_n hx hb hdec hv h9 kk9
    · cases hi
  | astore_n z =>
    dsimp only [kIns] at hi
    split at hi
    · rename_i x r
      simp only [kGo, Option.some.injEq, Sum.inr.injEq, Prod.mk.injEq] at hi
      obtain ⟨rfl, rfl, rfl, rfl, rfl, rfl⟩ := hi
      simp only [kOkI, Bool.and_eq_true, decide_eq_true_eq, Nat.beq_eq] at hok
      obtain ⟨rfl, hv, h1⟩ := hok
      rw [List.map_cons]
      rcases zV_ref b bs x with e9 | ⟨x9, e9⟩
      · rw [e9]
        exact zn_astore_n hx hb hdec hv (zLoc_has hl) h1 rfl (fun lsB hB => kk H locs lsB hP hS (zLoc_set1 hl h1 (kNoL hn9) rfl e9 hB))
      · rw [e9]
        exact lv_astore_n hx hb hdec hv (zLoc_has hl) h1 rfl (fun lsB hB => kk H locs lsB hP hS (zLoc_set1 hl h1 (kNoL hn9) rfl e9 hB))
    · cases hi
  | istore_n z =>
    dsimp only [kIns] at hi
    split at hi
    · simp only [kGo, Option.some.injEq, Sum.inr.injEq, Prod.mk.injEq] at hi
      obtain ⟨rfl, rfl, rfl, rfl, rfl, rfl⟩ := hi
      simp only [kOkI, Bool.and_eq_true, decide_eq_true_eq, Nat.beq_eq] at hok
      obtain ⟨rfl, hv, h1⟩ := hok
      exact lv_istore_n hx hb hdec hv (zLoc_has hl) h1 rfl (fun lsB hB => kk H locs lsB hP hS (zLoc_set1 hl h1 (kNoL hn9) rfl rfl hB))
    · cases hi
  | iinc z y =>
    dsimp only [kIns] at hi
    split at hi
    · rename_i heq
      simp only [kGo, Option.some.injEq, Sum.inr.injEq, Prod.mk.injEq] at hi
      obtain ⟨rfl, rfl, rfl, rfl, rfl, rfl⟩ := hi
      simp only [kOkI, Bool.and_eq_true, decide_eq_true_eq, Nat.beq_eq] at hok
      obtain ⟨rfl, rfl, h1, h3⟩ := hok
      rename_i x
      have hm : (z, Value.int x) ∈ zAs b bs ls := zAs_mem.mpr ⟨_, heq, fun q => (by cases q), rfl⟩
      obtain ⟨k9, hk9⟩ := List.getElem?_of_mem hm
      exact lv_iinc hx hb hdec (zLoc_has hl) hk9 (by rw [h3]) h1 rfl (fun lsB hB => kk H locs lsB hP hS (zLoc_set1 hl h1 (kNoL hn9) rfl rfl hB))
    · cases hi
  | iadd =>
    dsimp only [kIns] at hi
    split at hi
    · simp only [kGo, Option.some.injEq, Sum.inr.injEq, Prod.mk.injEq] at hi
      obtain ⟨rfl, rfl, rfl, rfl, rfl, rfl⟩ := hi
      simp only [kOkI, Bool.and_eq_true, decide_eq_true_eq, Nat.beq_eq] at hok
      obtain rfl := hok
      exact lv_iadd hx hb hdec (kk H locs lsA hP hS hl)
    · cases hi
  | dup =>
    dsimp only [kIns] at hi
    split at hi
    · simp only [kGo, Option.some.injEq, Sum.inr.injEq, Prod.mk.injEq] at hi
      obtain ⟨rfl, rfl, rfl, rfl, rfl, rfl⟩ := hi
      simp only [kOkI, Bool.and_eq_true, decide_eq_true_eq, Nat.beq_eq] at hok
      obtain rfl := hok
      exact lv_dup hx hb hdec (by rw [zV_cat]; rfl) (kk H locs lsA hP hS hl)
    · cases hi
  | goto z =>
    simp only [kOkI, Bool.and_eq_true, decide_eq_true_eq, Nat.beq_eq] at hok
    obtain ⟨rfl, hv⟩ := hok
    dsimp only [kIns] at hi
    simp only [kGo, Option.some.injEq, Sum.inr.injEq, Prod.mk.injEq] at hi
    obtain ⟨rfl, rfl, rfl, rfl, rfl, rfl⟩ := hi
    exact lv_goto hx hb hdec hv (kk H locs lsA hP hS hl)
  | if_icmp cnd z =>
    simp only [kOkI, Bool.and_eq_true, decide_eq_true_eq, Nat.beq_eq] at hok
    obtain ⟨rfl, hv⟩ := hok
    cases cnd <;> try (cases hi; done)
    dsimp only [kIns] at hi
    split at hi
    · simp only [kGo, Option.some.injEq, Sum.inr.injEq, Prod.mk.injEq] at hi
      obtain ⟨rfl, rfl, rfl, rfl, rfl, rfl⟩ := hi
      exact lv_icmp_ge hx hb hdec hv (fun q => by rw [if_pos q] at kk; exact kk H locs lsA hP hS hl) (fun q => by rw [if_neg q] at kk; exact kk H locs lsA hP hS hl)
    · cases hi
  | getfield ix =>
    simp only [kOkI, Bool.and_eq_true, decide_eq_true_eq, Nat.beq_eq] at hok
    obtain ⟨rfl, h1, h2, h3⟩ := hok
    dsimp only [kIns] at hi
    split at hi
    · rename_i k r
      split at hi
      · rename_i ci fs hk
        split at hi
        · rename_i hci
          subst hci
          split at hi
          · rename_i v hv
            simp only [kGo, Option.some.injEq, Sum.inr.injEq, Prod.mk.injEq] at hi
            obtain ⟨rfl, rfl, rfl, rfl, rfl, rfl⟩ := hi
            rw [List.map_cons, (hP.lt hk).2]
            have hP1 : va_P D zvCl [(b + k, kE b bs cs (.inl (ci, fs)))] H := by
              intro i y hiy
              have hz : i < 1 := (List.getElem?_eq_some_iff.mp hiy).1
              rw [show i = 0 by omega] at hiy
              cases hiy
              exact hP.2 k _ hk
            exact va_get (D := D) (T := (zC ci).2.1) hx hb hts (zin_all h1) hown hK hP1 0 rfl (zvCl_at h1) r2 h2 (hts _ (zTab_of h3 rfl)) (fun _ h9 => h9) (v := zV b bs v) (by rw [List.getElem?_map, hv]; rfl) hdec (kk H locs lsA hP hS hl)
          · cases hi
        · cases hi
      · cases hi
    · cases hi
  | putfield ix =>
    simp only [kOkI, Bool.and_eq_true, decide_eq_true_eq, Nat.beq_eq] at hok
    obtain ⟨rfl, h1, h2, h3, h4, h5⟩ := hok
    dsimp only [kIns] at hi
    split at hi
    · rename_i v k r
      split at hi
      · rename_i ci fs hk
        split at hi
        · rename_i hc
          obtain ⟨rfl, hl2, hn1, hf1⟩ := hc
          simp only [kGo, Option.some.injEq, Sum.inr.injEq, Prod.mk.injEq] at hi
          obtain ⟨rfl, rfl, rfl, rfl, rfl, rfl⟩ := hi
          rw [List.map_cons, List.map_cons, (hP.lt hk).2]
          exact k_put hx hb hts hown hK hP hS hk h1 h2 hl2 (hts _ (zTab_of h3 rfl)) (hnm h4) h5 hn1 hf1 hdec (fun H1 locs1 hP1 hS1 => kk H1 locs1 lsA hP1 hS1 hl)
        · cases hi
      · cases hi
    · cases hi
  | iastore =>
    dsimp only [kIns] at hi
    split at hi
    · rename_i x i k r
      split at hi
      · rename_i kd N g hk
        split at hi
        · rename_i hc
          obtain ⟨rfl, hin⟩ := hc
          simp only [kGo, Option.some.injEq, Sum.inr.injEq, Prod.mk.injEq] at hi
          obtain ⟨rfl, rfl, rfl, rfl, rfl, rfl⟩ := hi
          simp only [kOkI, Bool.and_eq_true, decide_eq_true_eq, Nat.beq_eq] at hok
          obtain rfl := hok
          rw [List.map_cons, List.map_cons, List.map_cons, (hP.lt hk).2]
          exact k_iast hx hb hK hP hS hk hin hdec (fun H1 locs1 hP1 hS1 => kk H1 locs1 lsA hP1 hS1 hl)
        · cases hi
      · cases hi
    · cases hi
  | aastore =>
    dsimp only [kIns] at hi
    split at hi
    · rename_i v i k r
      split at hi
      · rename_i kd N g hk
        split at hi
        · rename_i ci vs hv
          split at hi
          · rename_i hc
            obtain ⟨rfl, rfl, hin⟩ := hc
            simp only [kGo, Option.some.injEq, Sum.inr.injEq, Prod.mk.injEq] at hi
            obtain ⟨rfl, rfl, rfl, rfl, rfl, rfl⟩ := hi
            simp only [kOkI, Bool.and_eq_true, decide_eq_true_eq, Nat.beq_eq] at hok
            obtain rfl := hok
            rw [List.map_cons, List.map_cons, List.map_cons, (hP.lt hk).2, (hP.lt hv).2]
            exact k_aast hx hb hK hP hS hk hv hin hdec (fun H1 locs1 hP1 hS1 => kk H1 locs1 lsA hP1 hS1 hl)
          · cases hi
        · cases hi
      · cases hi
    · cases hi
  | new ix =>
    simp only [kOkI, Bool.and_eq_true, decide_eq_true_eq, Nat.beq_eq] at hok
    obtain ⟨rfl, h1, h2, h3, h4⟩ := hok
    dsimp only [kIns] at hi
    split at hi
    · rename_i hc
      obtain ⟨c1, c2, c3⟩ := hc
      simp only [kGo, Option.some.injEq, Sum.inr.injEq, Prod.mk.injEq] at hi
      obtain ⟨rfl, rfl, rfl, rfl, rfl, rfl⟩ := hi
      refine k_new hx hb hts hown hK hP hS h1 (hts _ (zTab_of h2 rfl)) (hts _ (zTab_of h3 rfl)) (hts _ (zTab_of h4 rfl)) (by omega) (by omega) c3 hdec (fun H1 hP1 hS1 => ?_)
      have k9 := kk H1 locs lsA hP1 hS1 hl
      rw [List.map_cons, hP.new (by omega)] at k9
      exact k9
    · cases hi
  | newarray t =>
    simp only [kOkI, Bool.and_eq_true, Bool.or_eq_true, decide_eq_true_eq, Nat.beq_eq] at hok
    obtain ⟨rfl, h1, h2⟩ := hok
    dsimp only [kIns] at hi
    split at hi
    · split at hi
      · rename_i hc
        obtain ⟨c1, c2, c3, c4, c5⟩ := hc
        simp only [kGo, Option.some.injEq, Sum.inr.injEq, Prod.mk.injEq] at hi
        obtain ⟨rfl, rfl, rfl, rfl, rfl, rfl⟩ := hi
        rw [List.map_cons]
        refine k_newa hx hb hK hP hS (hts _ (zTab_of h1 rfl)) h2 c4 c5 (by omega) (by omega) c3 hdec (fun H1 hP1 hS1 => ?_)
        have k9 := kk H1 locs lsA hP1 hS1 hl
        rw [List.map_cons, hP.new (by omega)] at k9
        exact k9
      · cases hi
    · cases hi
  | anewarray ix =>
    simp only [kOkI, Bool.and_eq_true, Bool.or_eq_true, decide_eq_true_eq, Nat.beq_eq] at hok
    obtain ⟨rfl, h1⟩ := hok
    dsimp only [kIns] at hi
    split at hi
    · split at hi
      · rename_i hc
        obtain ⟨c1, c2, c3, c4, c5⟩ := hc
        simp only [kGo, Option.some.injEq, Sum.inr.injEq, Prod.mk.injEq] at hi
        obtain ⟨rfl, rfl, rfl, rfl, rfl, rfl⟩ := hi
        rw [List.map_cons]
        refine k_anew hx hb hown hK hO hP hS (hts _ (zTab_of h1 rfl)) c4 c5 (by omega) (by omega) c3 hdec (fun H1 hP1 hS1 => ?_)
        have k9 := kk H1 locs lsA hP1 hS1 hl
        rw [List.map_cons, hP.new (by omega)] at k9
        exact k9
      · cases hi
    · cases hi
  | multianewarray ix dm =>
    simp only [kOkI, Bool.and_eq_true, decide_eq_true_eq, Nat.beq_eq] at hok
    obtain ⟨rfl, rfl, h1, h2⟩ := hok
    dsimp only [kIns] at hi
    split at hi
    · split at hi
      · rename_i hc
        obtain ⟨c1, c2, c3, ⟨c4, c5⟩, c6, c7⟩ := hc
        simp only [kGo, Option.some.injEq, Sum.inr.injEq, Prod.mk.injEq] at hi
        obtain ⟨rfl, rfl, rfl, rfl, rfl, rfl⟩ := hi
        rw [List.map_cons, List.map_cons]
        refine k_mna hx hb hown hK hO2 hP hS (hts _ (zTab_of h1 rfl)) (hts _ (zTab_of h2 rfl)) c4 c5 c6 c7 (by omega) (by omega) c3 hdec (fun H1 hP1 hS1 => ?_)
        have k9 := kk H1 locs lsA hP1 hS1 hl
        rw [List.map_cons, hP.new (by omega)] at k9
        exact k9
      · cases hi
    · cases hi
  | invokestatic ix =>
    simp only [kOkI, Bool.and_eq_true, decide_eq_true_eq, Nat.beq_eq] at hok
    obtain ⟨rfl, h1⟩ := hok
    dsimp only [kIns] at hi
    split at hi
    · rename_i y x r
      split at hi
      · rename_i hr
        obtain ⟨hr, c1, c2⟩ := hr
        simp only [kGo, Option.some.injEq, Sum.inr.injEq, Prod.mk.injEq] at hi
        obtain ⟨rfl, rfl, rfl, rfl, rfl, rfl⟩ := hi
        have hsr : (r.map (zV b bs)).map (fun v => v.category) = r.map (fun v => v.category) := by
          rw [List.map_map]
          exact List.map_congr_left (fun v _ => zV_cat b bs v)
        exact va_mmax hx hb (hml.trans hl.1.1.symm) hown (hts _ (zTab_of h1 rfl)) (hts _ kMax_stat) (hts _ kMax_ini) (hts _ kMax_code) (by omega) (by rw [hsr]; omega) (by omega) (by omega) hdec (kk H locs lsA hP hS hl)
      · cases hi
    · cases hi
  | invokespecial ix =>
    simp only [kOkI, Bool.and_eq_true, Nat.beq_eq] at hok
    obtain ⟨rfl, hok⟩ := hok
    dsimp only [kIns] at hi
    by_cases h9 : r1 = 100
    · rw [if_pos h9] at hok hi
      rw [decide_eq_true_eq] at hok
      split at hi
      · rename_i k r
        split at hi
        · rename_i hr
          obtain ⟨hk8, hr⟩ := hr
          simp only [kGo, Option.some.injEq, Sum.inr.injEq, Prod.mk.injEq] at hi
          obtain ⟨rfl, rfl, rfl, rfl, rfl, rfl⟩ := hi
          have hsr : (r.map (zV b bs)).map (fun v => v.category) = r.map (fun v => v.category) := by
            rw [List.map_map]
            exact List.map_congr_left (fun v _ => zV_cat b bs v)
          rw [List.map_cons, show zV b bs (.ref k) = .ref (zAd b bs k) from if_neg hk8]
          exact W.objInit hx hb hown (hts _ (zTab_of hok rfl)) (hts _ kObj_inst) (hts _ kObj_code) rfl (hl.1.1.trans hml.symm) rfl hdec (by omega) (by show 2 * 0 + ((r.map (zV b bs)).map fun v => v.category).sum + 12 ≤ R.locals; rw [hsr]; omega) (kk H locs lsA hP hS hl)
        · cases hi
      · cases hi
    · rw [if_neg h9] at hok hi
      simp only [Bool.and_eq_true, decide_eq_true_eq, Bool.or_eq_true] at hok
      obtain ⟨h1, h2, h3, h4, h5⟩ := hok
      split at hi
      · rename_i k r hst
        split at hi
        · rename_i hc
          obtain ⟨hk8, hr, c1, c2⟩ := hc
          split at hi
          · rename_i X9 hG9
            simp only [kGo, Option.some.injEq, Sum.inr.injEq, Prod.mk.injEq] at hi
            obtain ⟨rfl, rfl, rfl, rfl, rfl, rfl⟩ := hi
            obtain ⟨y1, y2, y3, y4, y5, y6, y7, y8, y9⟩ := kYok_use (kYok_all r1 h2 h1)
            have hM := hG _ _ _ _ hG9
            have hsl : st = (st.take r2) ++ .ref k :: r := by rw [← hst, List.take_append_drop]
            have hlen : (st.take r2).length = r2 := by
              have h7 := congrArg List.length hst
              rw [List.length_drop, List.length_cons] at h7
              rw [List.length_take]
              omega
            have hst2 : st.map (zV b bs) = ((st.take r2).reverse.map (zV b bs)).reverse ++ zV b bs (.ref k) :: r.map (zV b bs) := by
              conv => lhs; rw [hsl]
              rw [← List.map_reverse, List.reverse_reverse, List.map_append, List.map_cons]
            have hsr : (r.map (zV b bs)).map (fun v => v.category) = r.map (fun v => v.category) := by
              rw [List.map_map]
              exact List.map_congr_left (fun v _ => zV_cat b bs v)
            have ek8 : zV b bs (.ref k) = .ref (zAd b bs k) := if_neg hk8
            rw [hst2, ek8]
            have hpre : PreS s H (kPc b bs D cs (.ref k :: (st.take r2).reverse) X) (.ref (zAd b bs k) :: (st.take r2).reverse.map (zV b bs)) := ⟨kPc_blind, fun U hU hW => ⟨by rw [List.map_cons, ek8], by rw [hU]; exact hP, va_K.moved hW.alike hK, zNest_warm hW hN, va_AO.moved hW.alike hO, kAO.moved hW.alike hO2⟩⟩
            have hro : (kRm r1).frames + 1 ≤ R.frames ∧ 8 + (zMx (kYy r1) + 11) + (kRm r1).locals ≤ R.locals := ⟨by show kD r1 + 1 ≤ R.frames; omega, by show 8 + (zMx (kYy r1) + 11) + 37 * kD r1 ≤ R.locals; omega⟩
            rcases h5 with h5 | h5
            · exact k_call (va_runI (b := zAd b bs k) (As := (st.take r2).reverse.map (zV b bs)) (rest := r.map (zV b bs)) ⟨hx, hb, hml, hown, hts⟩ hM (cwI r2 hts (kGood (kYok_all r1 h2 h1)) rfl rfl rfl (hts _ y3) (hts _ (zTab_of h5 rfl)) (hts _ y2) y8 ⟨y4.1, y4.2, by rw [y5, h3]⟩ hro) hpre rfl (by rw [List.length_map, List.length_reverse]; exact hlen) hl.1.1 rfl (lv_room (by rw [hsr]; exact hr)) hdec ⟨by omega, by omega⟩) hS (fun H1 locs1 hP1 hS1 => kk H1 locs1 lsA hP1 hS1 hl)
            · have hnw : va_Nw (.methodLinkNest (kY n).cls ix (kY r1) "CanalTurns") s := hN _ (List.mem_filter.mpr ⟨List.mem_of_getElem? h5, rfl⟩)
              exact k_call (va_runIN (b := zAd b bs k) (As := (st.take r2).reverse.map (zV b bs)) (rest := r.map (zV b bs)) ⟨hx, hb, hml, hown, hts⟩ hM ⟨va_cnB r2 hts (kGood (kYok_all r1 h2 h1)) rfl rfl rfl hnw (hts _ y3) ⟨y4.1, y4.2, by rw [y5, h3]⟩ hro, y8, hts _ y2⟩ hpre rfl (by rw [List.length_map, List.length_reverse]; exact hlen) hl.1.1 rfl (lv_room (by rw [hsr]; exact hr)) hdec ⟨by omega, by omega⟩) hS (fun H1 locs1 hP1 hS1 => kk H1 locs1 lsA hP1 hS1 hl)
          · cases hi
        · cases hi
      · cases hi
  | return_ =>
    dsimp only [kIns] at hi
    split at hi
    · split at hi <;> cases hi
    · cases hi
  | _ =>
    cases hi
