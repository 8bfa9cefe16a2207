/-! the entry of the law -/
theorem x_bad_tbl : ∀ w ∈ x_badl, w ∈ lw_tbl := fun w hw => by
  rw [← x_bad] at hw
  exact (List.mem_filter.mp (List.mem_filter.mp hw).1).1
theorem x_nest_bad : ∀ w ∈ x_nestw, w ∈ x_badl ∧ w.onTables = true := by
  intro w hw
  simp only [x_nestw, List.mem_cons, List.not_mem_nil, or_false] at hw
  unfold x_badl
  rcases hw with rfl | rfl | rfl | rfl | rfl | rfl | rfl | rfl | rfl <;> exact ⟨by simp only [List.mem_cons, true_or, or_true], rfl⟩
theorem x_BW0 {A : Array Value} {s : State} (hts : ∀ w ∈ lw_tbl, w.before A s = true) : x_BW s := by
  have h := fun w hw => hts w (x_bad_tbl w hw)
  unfold x_badl at h
  simp only [List.forall_mem_cons] at h
  obtain ⟨b1, b2, b3, b4, b5, b6, b7, b8, b9, b10, -⟩ := h
  exact ⟨fun w hw => va_Nw.of (x_nest_bad w hw).2 (hts w (x_bad_tbl w (x_nest_bad w hw).1)), va_AO.of b1, va_AO.of b9, va_AO.of b5, b7⟩

