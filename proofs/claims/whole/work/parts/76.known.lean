/-! the ten classes at the entry -/
theorem x_K1 {A : Array Value} {s : State} (hts : ∀ w ∈ lw_tbl, w.before A s = true) : ∃ D : va_G, ∀ (c : Nat) (q : vw_C), vwCl[c]? = some q → u_Kn s q.1 q.2.1 q.2.2 (D.1 c) (D.2 c) := by
  obtain ⟨c0, i0, k0⟩ := u_known (n := 5) hts inX0 (hts _ (show Cond.instantiable RX0 5 ∈ lw_tbl by decide +kernel))
  obtain ⟨c1, i1, k1⟩ := u_known (n := 8) hts inX1 (hts _ (show Cond.instantiable RX1 8 ∈ lw_tbl by decide +kernel))
  obtain ⟨c2, i2, k2⟩ := u_known (n := 6) hts inX2 (hts _ (show Cond.instantiable RX2 6 ∈ lw_tbl by decide +kernel))
  obtain ⟨c3, i3, k3⟩ := u_known (n := 3) hts inX3 (hts _ (show Cond.instantiable RX3 3 ∈ lw_tbl by decide +kernel))
  obtain ⟨c4, i4, k4⟩ := u_known (n := 3) hts inX4 (hts _ (show Cond.instantiable RX4 3 ∈ lw_tbl by decide +kernel))
  obtain ⟨c5, i5, k5⟩ := u_known (n := 3) hts inX5 (hts _ (show Cond.instantiable RX5 3 ∈ lw_tbl by decide +kernel))
  obtain ⟨c6, i6, k6⟩ := u_known (n := 6) hts inX6 (hts _ (show Cond.instantiable RX6 6 ∈ lw_tbl by decide +kernel))
  obtain ⟨c7, i7, k7⟩ := u_known (n := 11) hts inX7 (hts _ (show Cond.instantiable RX7 11 ∈ lw_tbl by decide +kernel))
  obtain ⟨c8, i8, k8⟩ := u_known (n := 11) hts inX8 (hts _ (show Cond.instantiable RX8 11 ∈ lw_tbl by decide +kernel))
  obtain ⟨c9, i9, k9⟩ := u_known (n := 82) hts inX9 (hts _ (show Cond.instantiable RX9 82 ∈ lw_tbl by decide +kernel))
  refine ⟨(fun c => [c0, c1, c2, c3, c4, c5, c6, c7, c8, c9].getD c c0, fun c => [i0, i1, i2, i3, i4, i5, i6, i7, i8, i9].getD c i0), fun c q hq => ?_⟩
  match c, hq with
  | 0, hq => cases hq; exact k0
  | 1, hq => cases hq; exact k1
  | 2, hq => cases hq; exact k2
  | 3, hq => cases hq; exact k3
  | 4, hq => cases hq; exact k4
  | 5, hq => cases hq; exact k5
  | 6, hq => cases hq; exact k6
  | 7, hq => cases hq; exact k7
  | 8, hq => cases hq; exact k8
  | 9, hq => cases hq; exact k9
  | c + 10, hq => simp [vwCl] at hq

