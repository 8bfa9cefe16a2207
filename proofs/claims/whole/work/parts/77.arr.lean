/-! array classes at the entry -/
theorem x_arr {A : Array Value} {s : State} (hts : ∀ w ∈ lw_tbl, w.before A s = true) (t : ArrayType) (ht : t = .int ∨ t = .boolean ∨ t = .byte ∨ t = .long) : ∃ cA : ClassId, ArrOfT s cA (newarray.typeOf t) ∧ va_RA s cA (newarray.typeOf t) := by
  have h := hts _ (List.mem_filter.mp (x_wac t ht)).1
  obtain ⟨cA, kA, comp, h1, h2, h3⟩ := Cond.arrayClass_spec h
  refine ⟨cA, fun n z => ⟨fun k h => (by cases h), kA, h2, comp, h3⟩, ?_⟩
  rcases ht with rfl | rfl | rfl | rfl <;> exact h1

