/-! become -/
theorem ct_O_become {sc : List Int} {I : Nat → Nat → Int} {L : Nat → Nat → Int64} {O : Nat} (hO : xSH[O]? = some (2, 6, [none, none, none, none, some (O + 1), some (O + 2)])) (hO1 : xSH[O + 1]? = some (20, 5, [])) (hO2 : xSH[O + 2]? = some (20, 4, [])) (hlt : O + 2 < 1000) {N : Nat} (hN : xSH[N]? = some (2, 6, [none, none, none, none, some (N + 1), some (N + 2)])) (hN1 : xSH[N + 1]? = some (20, 5, [])) (hN2 : xSH[N + 2]? = some (20, 4, [])) (hltN : N + 2 < 1000) (hne : O + 2 < N ∨ N + 2 < O) (h01 : I N 3 = 0 ∨ I N 3 = 1) : x_CQ sc 1 xN_O_become [xr O, xr N] (xSH, I, L) (fun r m' => r = none ∧ ∃ I', m' = (xSH, I', L) ∧ (∀ j, j < 4 → I' O j = I N j) ∧ (∀ j, j < 5 → I' (O + 1) j = I (N + 1) j) ∧ (∀ j, j < 4 → I' (O + 2) j = I (N + 2) j) ∧ ∀ k j, k ≠ O → k ≠ O + 1 → k ≠ O + 2 → I' k j = I k j) := by
  refine x_CQ.of (M := xM_O_become) rfl (Nat.le_of_ble_eq_true rfl) ?_
  refine ex_st 2 (pc' := 2) (ls' := [(0, xr O), (1, xr N)]) (st' := [xr N, xr O]) rfl ?_
  refine ex_gfi rfl (by omega) hN (by decide) (by decide) rfl ?_
  refine ex_pfi rfl (by omega) hO (by decide) rfl (by decide) (fun h => by cases h) ?_
  refine ex_st 2 (pc' := 10) (ls' := [(0, xr O), (1, xr N)]) (st' := [xr N, xr O]) rfl ?_
  refine ex_gfi rfl (by omega) hN (by decide) (by decide) rfl ?_
  refine ex_pfi rfl (by omega) hO (by decide) rfl (by decide) (fun h => by cases h) ?_
  refine ex_st 2 (pc' := 18) (ls' := [(0, xr O), (1, xr N)]) (st' := [xr N, xr O]) rfl ?_
  refine ex_gfi rfl (by omega) hN (by decide) (by decide) rfl ?_
  refine ex_pfi rfl (by omega) hO (by decide) rfl (by decide) (fun h => by cases h) ?_
  refine ex_st 2 (pc' := 26) (ls' := [(0, xr O), (1, xr N)]) (st' := [xr N, xr O]) rfl ?_
  refine ex_gfi rfl (by omega) hN (by decide) (by decide) rfl ?_
  refine ex_pfi rfl (by omega) hO (by decide) rfl (by decide) (fun _ => by simp only [x_up_ne (show N ≠ O by omega)]; exact h01) ?_
  refine ex_st 1 (pc' := 33) (ls' := [(0, xr O), (1, xr N)]) (st' := [xr N]) rfl ?_
  refine ex_gfr rfl (by omega) hN (by decide) (by decide) rfl ?_
  refine ex_st 2 (pc' := 38) (ls' := [(0, xr O), (1, xr N)]) (st' := [xr O, xi 0, xr (N + 1)]) rfl ?_
  refine ex_gfr rfl (by omega) hO (by decide) (by decide) rfl ?_
  refine ex_st 2 (pc' := 43) (ls' := [(0, xr O), (1, xr N)]) (st' := [xi 5, xi 0, xr (O + 1), xi 0, xr (N + 1)]) rfl ?_
  refine ex_cpy (nn := 5) (sn := 0) (dn := 0) rfl ⟨(by omega), (by omega)⟩ hN1 hO1 ⟨(by decide), (by decide), (by decide)⟩ (by decide) ⟨by omega, by decide⟩ ⟨by omega, by decide⟩ ?_
  refine ex_st 1 (pc' := 47) (ls' := [(0, xr O), (1, xr N)]) (st' := [xr N]) rfl ?_
  refine ex_gfr rfl (by omega) hN (by decide) (by decide) rfl ?_
  refine ex_st 2 (pc' := 52) (ls' := [(0, xr O), (1, xr N)]) (st' := [xr O, xi 0, xr (N + 2)]) rfl ?_
  refine ex_gfr rfl (by omega) hO (by decide) (by decide) rfl ?_
  refine ex_st 2 (pc' := 57) (ls' := [(0, xr O), (1, xr N)]) (st' := [xi 4, xi 0, xr (O + 2), xi 0, xr (N + 2)]) rfl ?_
  refine ex_cpy (nn := 4) (sn := 0) (dn := 0) rfl ⟨(by omega), (by omega)⟩ hN2 hO2 ⟨(by decide), (by decide), (by decide)⟩ (by decide) ⟨by omega, by decide⟩ ⟨by omega, by decide⟩ ?_
  refine ex_retv rfl rfl ?_
  refine ⟨rfl, _, rfl, ?_, ?_, ?_, ?_⟩
  · intro j hj; rcases (show j = 0 ∨ j = 1 ∨ j = 2 ∨ j = 3 by omega) with rfl | rfl | rfl | rfl <;> simp [x_cp, x_up, show N ≠ O by omega, show N + 1 ≠ O by omega, show N + 2 ≠ O by omega, show N + 1 ≠ O + 1 by omega, show N + 2 ≠ O + 1 by omega, show N ≠ O + 1 by omega, show N + 2 ≠ O + 2 by omega, show N ≠ O + 2 by omega, show N + 1 ≠ O + 2 by omega]
  · intro j hj; simp [x_cp, x_up, show N ≠ O by omega, show N + 1 ≠ O by omega, show N + 2 ≠ O by omega, show N + 1 ≠ O + 1 by omega, show N + 2 ≠ O + 1 by omega, show N ≠ O + 1 by omega, show N + 2 ≠ O + 2 by omega, show N ≠ O + 2 by omega, show N + 1 ≠ O + 2 by omega]; intro h5; omega
  · intro j hj; simp [x_cp, x_up, show N ≠ O by omega, show N + 1 ≠ O by omega, show N + 2 ≠ O by omega, show N + 1 ≠ O + 1 by omega, show N + 2 ≠ O + 1 by omega, show N ≠ O + 1 by omega, show N + 2 ≠ O + 2 by omega, show N ≠ O + 2 by omega, show N + 1 ≠ O + 2 by omega]; intro h5; omega
  · intro k j h1 h2 h3; simp [x_cp, x_up, h1, h2, h3]
theorem ct_Rw_become {sc : List Int} {I : Nat → Nat → Int} {L : Nat → Nat → Int64} {A B cap : Nat} (hA : xSH[A]? = some (4, 3, [none, some (A + 1), none])) (hA1 : xSH[A + 1]? = some (20, 4 * cap, [])) (hB : xSH[B]? = some (4, 3, [none, some (B + 1), none])) (hB1 : xSH[B + 1]? = some (20, 4 * cap, [])) (hlt : A + 1 < 1000) (hltB : B + 1 < 1000) (hne : A + 1 < B ∨ B + 1 < A) (hcap : cap ≤ 10) {n : Nat} (hn : I B 2 = (n : Int)) (hn1 : n ≤ cap) : x_CQ sc 1 xN_Rw_become [xr A, xr B] (xSH, I, L) (fun r m' => r = none ∧ ∃ I', m' = (xSH, I', L) ∧ I' A 2 = (n : Int) ∧ (∀ j, j < 4 * n → I' (A + 1) j = I (B + 1) j) ∧ ∀ k j, ¬ (k = A ∧ j = 2) → ¬ (k = A + 1 ∧ j < 4 * n) → I' k j = I k j) := by
  refine x_CQ.of (M := xM_Rw_become) rfl (Nat.le_of_ble_eq_true rfl) ?_
  refine ex_st 2 (pc' := 2) (ls' := [(0, xr A), (1, xr B)]) (st' := [xr B, xr A]) rfl ?_
  refine ex_gfi rfl (by omega) hB (by decide) (by decide) rfl ?_
  rw [hn]
  refine ex_pfi rfl (by omega) hA (by decide) rfl (by decide) (fun h => by cases h) ?_
  refine ex_st 1 (pc' := 9) (ls' := [(0, xr A), (1, xr B)]) (st' := [xr B]) rfl ?_
  refine ex_gfr rfl (by omega) hB (by decide) (by decide) rfl ?_
  refine ex_st 2 (pc' := 14) (ls' := [(0, xr A), (1, xr B)]) (st' := [xr A, xi 0, xr (B + 1)]) rfl ?_
  refine ex_gfr rfl (by omega) hA (by decide) (by decide) rfl ?_
  refine ex_st 2 (pc' := 19) (ls' := [(0, xr A), (1, xr B)]) (st' := [xr A, xi 0, xr (A + 1), xi 0, xr (B + 1)]) rfl ?_
  refine ex_gfi rfl (by omega) hA (by decide) (by decide) rfl ?_
  rw [show x_up I A 2 (↑n) A 2 = (n : Int) by simp [x_up]]
  refine ex_st 2 (pc' := 24) (ls' := [(0, xr A), (1, xr B)]) (st' := [xi ((↑n) * 4), xi 0, xr (A + 1), xi 0, xr (B + 1)]) rfl ?_
  refine ex_cpy (nn := ((n) * 4)) (sn := 0) (dn := 0) rfl ⟨(by omega), (by omega)⟩ hB1 hA1 ⟨(by omega), (by decide), (by decide)⟩ (by decide) ⟨by omega, by omega⟩ ⟨by omega, by omega⟩ ?_
  refine ex_retv rfl rfl ?_
  refine ⟨rfl, _, rfl, ?_, ?_, ?_⟩
  · simp [x_cp, x_up, show A ≠ B by omega, show B ≠ A by omega, show B + 1 ≠ A by omega, show B + 1 ≠ A + 1 by omega, show B ≠ A + 1 by omega]
  · intro j hj; simp only [x_cp, x_up, if_true]; rw [if_pos (by omega), if_neg (by omega)]; congr 1; omega
  · intro k j h1 h2; simp only [x_cp, x_up]; (split <;> split) <;> first | rfl | (exfalso; omega) | (split <;> first | rfl | (exfalso; omega))
