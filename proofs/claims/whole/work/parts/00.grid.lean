/-! ===== a grid's outer row: first, so that the rounds are read over the whole library from here on ===== -/
theorem k_outer (c : ClassId) (N h0 : Nat) : ∀ i : Nat, Jvm.Free.Multi.outerC c N h0 i = arrV c N (fun j => va_rf (if j < i then some (h0 + 1 + j) else none))
  | 0 => (arrV_new c N .null).trans (congrArg (arrV c N) (funext fun j => by simp [va_rf]))
  | i + 1 => by
    have ih := k_outer c N h0 i
    refine (congrArg (fun q : Cell => q.setSlot i (.ref (h0 + 1 + i))) ih).trans ?_
    rw [arrV_store]
    refine congrArg (arrV c N) (funext fun j => ?_)
    unfold updV
    by_cases e : j = i
    · subst e
      simp [va_rf]
    · have h2 : (j < i + 1) = (j < i) := propext ⟨fun q => by omega, fun q => by omega⟩
      simp [e, h2]
