/-! ===== what the tables say at the law's entry ===== -/
section ZB
variable {args : Array Value} {s : State}
theorem kTab (hts : ∀ w ∈ lw_tbl, w.before args s = true) : ∀ w ∈ zTab, w.before args s = true := fun w hw => hts w (List.mem_filter.mp hw).1
theorem kNest (hts : ∀ w ∈ lw_tbl, w.before args s = true) : ∀ w ∈ zNest, va_Nw w s := by
  intro w hw
  have h1 := hts w (List.mem_filter.mp hw).1
  have h2 := (List.mem_filter.mp hw).2
  cases w <;> first | exact va_Nw.of rfl h1 | cases h2
theorem kInst {ci : Nat} (h : ci < 8) : Cond.instantiable (zC ci).1 (zC ci).2.2 ∈ zTab := by
  match ci, h with
  | 0, _ => exact zTab_of (i := 78) (by decide +kernel) rfl
  | 1, _ => exact zTab_of (i := 84) (by decide +kernel) rfl
  | 2, _ => exact zTab_of (i := 240) (by decide +kernel) rfl
  | 3, _ => exact zTab_of (i := 273) (by decide +kernel) rfl
  | 4, _ => exact zTab_of (i := 183) (by decide +kernel) rfl
  | 5, _ => exact zTab_of (i := 72) (by decide +kernel) rfl
  | 6, _ => exact zTab_of (i := 64) (by decide +kernel) rfl
  | 7, _ => exact zTab_of (i := 773) (by decide +kernel) rfl
  | n + 8, h => omega
theorem kAO.spec {U : State} (h : kAO U) : ∃ (c : ClassId) (k : Class) (comp : ClassId), U.vm.classes[c]? = some k ∧ k.kind = .array comp (.array .int) ∧ U.vm.findClass ("[" ++ (FieldType.array .int).toString) = some c := by
  unfold kAO Cond.before Cond.holds at h
  simp only [Cond.value, beq_iff_eq, Option.bind_eq_some_iff, Option.map_eq_some_iff] at h
  obtain ⟨comp, h1, c, h2, k, h3, h4⟩ := h
  split at h4
  · rename_i c9 ty hk
    rw [Bool.and_eq_true, decide_eq_true_eq, decide_eq_true_eq] at h4
    exact ⟨c, k, c9, h3, by rw [hk, h4.1], h4.2⟩
  · cases h4
theorem kW_byte : lw_tbl[270]? = some (.arrayClass .byte) := by decide +kernel
theorem kW_int : lw_tbl[114]? = some (.arrayClass .int) := by decide +kernel
theorem kW_long : lw_tbl[291]? = some (.arrayClass .long) := by decide +kernel
theorem kW_obj : lw_tbl[272]? = some (.arrayOver (.object RX3)) := by decide +kernel
theorem kW_arr : lw_tbl[246]? = some (.arrayOver (.array .int)) := by decide +kernel
theorem kKnow (hts : ∀ w ∈ lw_tbl, w.before args s = true) : ∃ (D : va_G) (cs : Nat → ClassId), va_K D zvCl (zTy cs) s := by
  have hz := kTab hts
  have h : ∀ ci, ∃ q : ClassId × (Nat → Nat), ci < 8 → u_Kn s (zC ci).1 (zC ci).2.1 (zC ci).2.2 q.1 q.2 := by
    intro ci
    by_cases h : ci < 8
    · obtain ⟨cC, iS, hk⟩ := u_known hz (zin_all h) (hz _ (kInst h))
      exact ⟨(cC, iS), fun _ => hk⟩
    · exact ⟨(0, fun _ => 0), fun q => absurd q h⟩
  obtain ⟨c20, k20, m20, a1, a2, a3⟩ := Cond.arrayClass_spec (hts _ (List.mem_of_getElem? kW_byte))
  obtain ⟨c21, k21, m21, b1, b2, b3⟩ := Cond.arrayClass_spec (hts _ (List.mem_of_getElem? kW_int))
  obtain ⟨c22, k22, m22, d1, d2, d3⟩ := Cond.arrayClass_spec (hts _ (List.mem_of_getElem? kW_long))
  obtain ⟨m23, c23, k23, e1, e2, e3, e4, e5⟩ := Cond.arrayOver_spec (hts _ (List.mem_of_getElem? kW_obj))
  obtain ⟨c24, k24, m24, g1, g2, g3⟩ := kAO.spec (kAO.of (hts _ (List.mem_of_getElem? kW_arr)))
  refine ⟨(fun ci => (Classical.choose (h ci)).1, fun ci => (Classical.choose (h ci)).2), fun n => if n = 20 then c20 else if n = 21 then c21 else if n = 22 then c22 else if n = 23 then c23 else c24, ⟨fun ci q hq => ?_, fun k q hq => ?_⟩⟩
  · have hlt : ci < 8 := (List.getElem?_eq_some_iff.mp hq).1
    rw [zvCl_at hlt] at hq
    cases hq
    exact Classical.choose_spec (h ci) hlt
  · match k, hq with
    | 0, hq =>
      obtain rfl : (c20, FieldType.byte) = q := Option.some.inj hq
      exact ⟨fun n z => ⟨fun k h => (by cases h), k20, a2, m20, a3⟩, a1⟩
    | 1, hq =>
      obtain rfl : (c21, FieldType.int) = q := Option.some.inj hq
      exact ⟨fun n z => ⟨fun k h => (by cases h), k21, b2, m21, b3⟩, b1⟩
    | 2, hq =>
      obtain rfl : (c22, FieldType.long) = q := Option.some.inj hq
      exact ⟨fun n z => ⟨fun k h => (by cases h), k22, d2, m22, d3⟩, d1⟩
    | 3, hq =>
      obtain rfl : (c23, FieldType.object RX3) = q := Option.some.inj hq
      exact ⟨fun n z => ⟨fun k h => (by cases h), k23, e3, m23, e4⟩, k23, m23, e3, e4, e1, e5⟩
    | 4, hq =>
      obtain rfl : (c24, FieldType.array .int) = q := Option.some.inj hq
      exact ⟨fun n z => ⟨fun k h => (by cases h), k24, g1, m24, g2⟩, g3⟩
    | n + 5, hq => cases hq
end ZB
