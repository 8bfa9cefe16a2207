theorem x_b0 (p : Nat) : x_b (((0 : Int)).toNat.testBit p = true) = 0 := by
  have : ((0 : Int)).toNat.testBit p = false := Nat.zero_testBit p
  rw [this]; rfl
theorem x_Rl0 : Rl x_m2.2.1 x_m2.2.2 := by
  obtain ⟨⟨s1, s2⟩, ⟨o1, o2, a, b1, b2⟩, ⟨r1, r2, d1, d2, ⟨g1, g2, g3, g4⟩, ⟨z1, z2, z3, z4, z5, z6, z7, z8, z9, z10, z11, z12, z13⟩⟩, ⟨⟨e1, e2, e3, e4, e5, e6, e7, e8, e9, e10, e11, e12⟩, ⟨u1, u2, u3, u4, u5⟩, h, q⟩⟩ := And.intro x_iall1 (And.intro x_iall2 (And.intro x_iall3 x_iall4))
  generalize x_m2.2.1 = I at *
  generalize x_m2.2.2 = L at *
  refine ⟨⟨s1, o1, ?_, fun p x hp hx => b1 p hp x hx, fun p x hp hx => r1 p hp x hx, d1, ?_, ?_, ?_, ?_⟩, ⟨s2, o2, ?_, fun p x hp hx => b2 p hp x hx, fun p x hp hx => r2 p hp x hx, d2, ?_, ?_, ?_, ?_⟩, ?_, ?_, ?_, h, q⟩
  · exact ⟨fun p hp => by rw [z1, x_b0]; exact (a p hp).1, by rw [z1]; decide, by rw [z1]; decide⟩
  · exact ⟨by rw [g1, z3], by omega, by omega, g3, fun x hx => by rw [z3] at hx; omega, fun x y _ hx => by rw [z3] at hx; omega⟩
  · exact ⟨by rw [e1, z5], by omega, by omega, e2, fun x hx => by rw [z5] at hx; omega⟩
  · exact ⟨by rw [e5, z7], by omega, by omega, e6, fun x hx => by rw [z7] at hx; omega⟩
  · exact ⟨by rw [e9, z9], by omega, by omega, e10, fun x hx => by rw [z9] at hx; omega⟩
  · exact ⟨fun p hp => by rw [z2, x_b0]; exact (a p hp).2, by rw [z2]; decide, by rw [z2]; decide⟩
  · exact ⟨by rw [g2, z4], by omega, by omega, g4, fun x hx => by rw [z4] at hx; omega, fun x y _ hx => by rw [z4] at hx; omega⟩
  · exact ⟨by rw [e3, z6], by omega, by omega, e4, fun x hx => by rw [z6] at hx; omega⟩
  · exact ⟨by rw [e7, z8], by omega, by omega, e8, fun x hx => by rw [z8] at hx; omega⟩
  · exact ⟨by rw [e11, z10], by omega, by omega, e12, fun x hx => by rw [z10] at hx; omega⟩
  · exact ⟨by rw [u1, z11], by omega, by omega, u2, u3, fun f hf => by rw [z11] at hf; omega⟩
  · exact ⟨by rw [u4, z12], by omega, by omega, fun x hx => by rw [z12] at hx; omega⟩
  · exact ⟨by rw [u5, z13], by omega, by omega, fun x _ hx => by rw [z13] at hx; omega⟩
/-- the law's run, whatever the script says -/
theorem law_run {sc : List Int} (hv : ∀ v, v ∈ sc → x_R v) (hl : sc.length < 100000) : ∃ f m', x_run (x_cal sc 60 f) sc xM_law f 0 [(0, xr 1000)] [] x_m0 = some (some (xi 1), m') ∧ m'.1 = xSH := by
  have h : x_Ex sc 30 xM_law 0 [(0, xr 1000)] [] x_m0 (fun r m' => r = some (xi 1) ∧ m'.1 = xSH) := by
    obtain ⟨h1, h2, h3, h4, h5⟩ := And.intro x_h1 (And.intro x_h2 (And.intro x_h3 (And.intro x_h4 x_Rl0)))
    generalize x_m1 = m1 at *
    generalize x_m2 = m2 at *
    obtain ⟨sh, I, L⟩ := m2
    obtain rfl : sh = xSH := h4
    refine ex_st 2 (pc' := 4) (ls' := [(0, xr 1000)]) (st' := [xr 0, xr 0]) (m' := x_nw x_m0 (8, (x_defR 8).length, x_defR 8)) rfl ?_
    refine ex_call (x_CE.kern h1 (Nat.le_refl 6)) (by decide) rfl ⟨rfl, rfl, rfl⟩ ⟨Nat.le_of_ble_eq_true rfl, rfl, rfl⟩ (Nat.le_of_ble_eq_true rfl) rfl ?_
    refine ex_st 3 (pc' := 12) (ls' := [(1, xr 0), (0, xr 1000)]) (st' := [xr m1.1.length, xr m1.1.length]) (m' := x_nw m1 (9, (x_defR 9).length, x_defR 9)) rfl ?_
    rw [h3]
    refine ex_call (x_CE.kern h2 (Nat.le_refl 6)) (by decide) rfl ⟨rfl, rfl, rfl⟩ ⟨Nat.le_of_ble_eq_true rfl, rfl, rfl⟩ (Nat.le_of_ble_eq_true rfl) rfl ?_
    exact ex_st 3 (pc' := 18) (ls' := [(3, xi ((0 : Nat) : Int)), (2, xr 143), (1, xr 0), (0, xr 1000)]) (st' := []) rfl (lp_law hv hl 0 (by omega) I L h5)
  obtain ⟨r, m', ⟨rfl, hm⟩, N, hN⟩ := h
  exact ⟨N, m', hN N (Nat.le_refl _) N (Nat.le_refl _) 60 (by decide), hm⟩

