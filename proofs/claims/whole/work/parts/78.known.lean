/-! all array classes at the entry -/
theorem x_arrO {A : Array Value} {s : State} {C : String} (h : (Cond.arrayOver (.object C)).before A s = true) : ∃ cA : ClassId, ArrOfT s cA (.object C) ∧ va_RA s cA (.object C) := by
  obtain ⟨comp, cA, kA, h1, h2, h3, h4, h5⟩ := Cond.arrayOver_spec h
  exact ⟨cA, fun n z => ⟨fun k h => (by cases h), kA, h3, comp, h4⟩, kA, comp, h3, h4, h1, h5⟩
theorem x_K0 {A : Array Value} {s : State} (hts : ∀ w ∈ lw_tbl, w.before A s = true) (hA : ∃ cA : ClassId, ArrOfT s cA (.array .int) ∧ va_RA s cA (.array .int)) : ∃ (D : va_G) (T : Nat → ClassId), ∀ (a : Nat) (ad : Nat → Nat) (v : Value), va_K D vwCl (x_tys (a, ad, v, D, T)) s := by
  obtain ⟨D, hD⟩ := x_K1 hts
  obtain ⟨-, b1, b5, b6, b7⟩ := x_BW0 hts
  obtain ⟨d20, e20⟩ := x_arr hts .int (Or.inl rfl)
  obtain ⟨d21, e21⟩ := x_arr hts .byte (Or.inr (Or.inr (Or.inl rfl)))
  obtain ⟨d22, e22⟩ := x_arr hts .boolean (Or.inr (Or.inl rfl))
  obtain ⟨d23, e23⟩ := x_arr hts .long (Or.inr (Or.inr (Or.inr rfl)))
  obtain ⟨d32, e32⟩ := x_arrO b1
  obtain ⟨d35, e35⟩ := x_arrO b5
  obtain ⟨d36, e36⟩ := x_arrO b6
  obtain ⟨d40, e40⟩ := hA
  refine ⟨D, fun t => if t = 20 then d20 else if t = 21 then d21 else if t = 22 then d22 else if t = 23 then d23 else if t = 32 then d32 else if t = 35 then d35 else if t = 36 then d36 else d40, fun a ad v => ⟨hD, fun k q hq => ?_⟩⟩
  match k, hq with
  | 0, hq => cases hq; exact e20
  | 1, hq => cases hq; exact e21
  | 2, hq => cases hq; exact e22
  | 3, hq => cases hq; exact e23
  | 4, hq => cases hq; exact e32
  | 5, hq => cases hq; exact e35
  | 6, hq => cases hq; exact e36
  | 7, hq => cases hq; exact e40
  | k + 8, hq => simp [x_tys] at hq

