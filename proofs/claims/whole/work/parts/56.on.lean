/-! pair of calls: on -/
theorem ct_m_save {sc : List Int} {I : Nat → Nat → Int} {L : Nat → Nat → Int64} : x_CQ sc 1 xN_m_save [xr 143] (xSH, I, L) (fun r m' => r = none ∧ ∃ K, m' = (xSH, K, L) ∧ K 143 32 = 2000000000 ∧ K 143 33 = I 143 1 ∧ K 143 34 = I 143 3 ∧ K 143 35 = I 143 4 ∧ (∀ x, x < 5 → K 163 x = I 149 x) ∧ ∀ k j, ¬ ((k = 143 ∧ (j = 32 ∨ j = 33 ∨ j = 34 ∨ j = 35)) ∨ (k = 163 ∧ j < 5)) → K k j = I k j) := by
  refine x_CQ.of (M := xM_m_save) rfl (Nat.le_of_ble_eq_true rfl) ?_
  refine ex_st 2 (pc' := 4) (ls' := [(0, xr 143)]) (st' := [xi 2000000000, xr 143]) rfl ?_
  refine ex_pfi rfl (by decide) (rfl : xSH[143]? = some _) (by decide) rfl (by decide) (fun h => by cases h) ?_
  refine ex_st 2 (pc' := 9) (ls' := [(0, xr 143)]) (st' := [xr 143, xr 143]) rfl ?_
  refine ex_gfi rfl (by decide) (rfl : xSH[143]? = some _) (by decide) (by decide) rfl ?_
  rw [x_up_far (k := 143) (j := 1) (k0 := 143) (j0 := 32) (by decide)]
  refine ex_pfi rfl (by decide) (rfl : xSH[143]? = some _) (by decide) rfl (by decide) (fun h => by cases h) ?_
  refine ex_st 2 (pc' := 17) (ls' := [(0, xr 143)]) (st' := [xr 143, xr 143]) rfl ?_
  refine ex_gfi rfl (by decide) (rfl : xSH[143]? = some _) (by decide) (by decide) rfl ?_
  rw [x_up_far (k := 143) (j := 3) (k0 := 143) (j0 := 33) (by decide), x_up_far (k := 143) (j := 3) (k0 := 143) (j0 := 32) (by decide)]
  refine ex_pfi rfl (by decide) (rfl : xSH[143]? = some _) (by decide) rfl (by decide) (fun h => by cases h) ?_
  refine ex_st 2 (pc' := 25) (ls' := [(0, xr 143)]) (st' := [xr 143, xr 143]) rfl ?_
  refine ex_gfi rfl (by decide) (rfl : xSH[143]? = some _) (by decide) (by decide) rfl ?_
  rw [x_up_far (k := 143) (j := 4) (k0 := 143) (j0 := 34) (by decide), x_up_far (k := 143) (j := 4) (k0 := 143) (j0 := 33) (by decide), x_up_far (k := 143) (j := 4) (k0 := 143) (j0 := 32) (by decide)]
  refine ex_pfi rfl (by decide) (rfl : xSH[143]? = some _) (by decide) rfl (by decide) (fun h => by cases h) ?_
  refine ex_st 4 (pc' := 35) (ls' := [(1, xi 0), (0, xr 143)]) (st' := [xi 5, xi 0]) rfl ?_
  refine ex_st 1 (pc' := 38) (ls' := [(1, xi 0), (0, xr 143)]) (st' := []) rfl ?_
  refine ex_st 6 (pc' := 48) (ls' := [(1, xi 0), (0, xr 143)]) (st' := [xi 0, xr 149, xi 0, xr 163]) rfl ?_
  refine ex_iald (j := 0) rfl (by decide) (rfl : xSH[149]? = some _) (by decide) (by decide) (by decide) ?_
  rw [x_up_far (k := 149) (j := 0) (k0 := 143) (j0 := 35) (by decide), x_up_far (k := 149) (j := 0) (k0 := 143) (j0 := 34) (by decide), x_up_far (k := 149) (j := 0) (k0 := 143) (j0 := 33) (by decide), x_up_far (k := 149) (j := 0) (k0 := 143) (j0 := 32) (by decide)]
  refine ex_iast (j := 0) rfl (by decide) (rfl : xSH[163]? = some _) (by decide) (by decide) (by decide) ?_
  refine ex_st 4 (pc' := 35) (ls' := [(1, xi 1), (0, xr 143)]) (st' := [xi 5, xi 1]) rfl ?_
  refine ex_st 1 (pc' := 38) (ls' := [(1, xi 1), (0, xr 143)]) (st' := []) rfl ?_
  refine ex_st 6 (pc' := 48) (ls' := [(1, xi 1), (0, xr 143)]) (st' := [xi 1, xr 149, xi 1, xr 163]) rfl ?_
  refine ex_iald (j := 1) rfl (by decide) (rfl : xSH[149]? = some _) (by decide) (by decide) (by decide) ?_
  rw [x_up_far (k := 149) (j := 1) (k0 := 163) (j0 := 0) (by decide), x_up_far (k := 149) (j := 1) (k0 := 143) (j0 := 35) (by decide), x_up_far (k := 149) (j := 1) (k0 := 143) (j0 := 34) (by decide), x_up_far (k := 149) (j := 1) (k0 := 143) (j0 := 33) (by decide), x_up_far (k := 149) (j := 1) (k0 := 143) (j0 := 32) (by decide)]
  refine ex_iast (j := 1) rfl (by decide) (rfl : xSH[163]? = some _) (by decide) (by decide) (by decide) ?_
  refine ex_st 4 (pc' := 35) (ls' := [(1, xi 2), (0, xr 143)]) (st' := [xi 5, xi 2]) rfl ?_
  refine ex_st 1 (pc' := 38) (ls' := [(1, xi 2), (0, xr 143)]) (st' := []) rfl ?_
  refine ex_st 6 (pc' := 48) (ls' := [(1, xi 2), (0, xr 143)]) (st' := [xi 2, xr 149, xi 2, xr 163]) rfl ?_
  refine ex_iald (j := 2) rfl (by decide) (rfl : xSH[149]? = some _) (by decide) (by decide) (by decide) ?_
  rw [x_up_far (k := 149) (j := 2) (k0 := 163) (j0 := 1) (by decide), x_up_far (k := 149) (j := 2) (k0 := 163) (j0 := 0) (by decide), x_up_far (k := 149) (j := 2) (k0 := 143) (j0 := 35) (by decide), x_up_far (k := 149) (j := 2) (k0 := 143) (j0 := 34) (by decide), x_up_far (k := 149) (j := 2) (k0 := 143) (j0 := 33) (by decide), x_up_far (k := 149) (j := 2) (k0 := 143) (j0 := 32) (by decide)]
  refine ex_iast (j := 2) rfl (by decide) (rfl : xSH[163]? = some _) (by decide) (by decide) (by decide) ?_
  refine ex_st 4 (pc' := 35) (ls' := [(1, xi 3), (0, xr 143)]) (st' := [xi 5, xi 3]) rfl ?_
  refine ex_st 1 (pc' := 38) (ls' := [(1, xi 3), (0, xr 143)]) (st' := []) rfl ?_
  refine ex_st 6 (pc' := 48) (ls' := [(1, xi 3), (0, xr 143)]) (st' := [xi 3, xr 149, xi 3, xr 163]) rfl ?_
  refine ex_iald (j := 3) rfl (by decide) (rfl : xSH[149]? = some _) (by decide) (by decide) (by decide) ?_
  rw [x_up_far (k := 149) (j := 3) (k0 := 163) (j0 := 2) (by decide), x_up_far (k := 149) (j := 3) (k0 := 163) (j0 := 1) (by decide), x_up_far (k := 149) (j := 3) (k0 := 163) (j0 := 0) (by decide), x_up_far (k := 149) (j := 3) (k0 := 143) (j0 := 35) (by decide), x_up_far (k := 149) (j := 3) (k0 := 143) (j0 := 34) (by decide), x_up_far (k := 149) (j := 3) (k0 := 143) (j0 := 33) (by decide), x_up_far (k := 149) (j := 3) (k0 := 143) (j0 := 32) (by decide)]
  refine ex_iast (j := 3) rfl (by decide) (rfl : xSH[163]? = some _) (by decide) (by decide) (by decide) ?_
  refine ex_st 4 (pc' := 35) (ls' := [(1, xi 4), (0, xr 143)]) (st' := [xi 5, xi 4]) rfl ?_
  refine ex_st 1 (pc' := 38) (ls' := [(1, xi 4), (0, xr 143)]) (st' := []) rfl ?_
  refine ex_st 6 (pc' := 48) (ls' := [(1, xi 4), (0, xr 143)]) (st' := [xi 4, xr 149, xi 4, xr 163]) rfl ?_
  refine ex_iald (j := 4) rfl (by decide) (rfl : xSH[149]? = some _) (by decide) (by decide) (by decide) ?_
  rw [x_up_far (k := 149) (j := 4) (k0 := 163) (j0 := 3) (by decide), x_up_far (k := 149) (j := 4) (k0 := 163) (j0 := 2) (by decide), x_up_far (k := 149) (j := 4) (k0 := 163) (j0 := 1) (by decide), x_up_far (k := 149) (j := 4) (k0 := 163) (j0 := 0) (by decide), x_up_far (k := 149) (j := 4) (k0 := 143) (j0 := 35) (by decide), x_up_far (k := 149) (j := 4) (k0 := 143) (j0 := 34) (by decide), x_up_far (k := 149) (j := 4) (k0 := 143) (j0 := 33) (by decide), x_up_far (k := 149) (j := 4) (k0 := 143) (j0 := 32) (by decide)]
  refine ex_iast (j := 4) rfl (by decide) (rfl : xSH[163]? = some _) (by decide) (by decide) (by decide) ?_
  refine ex_st 4 (pc' := 35) (ls' := [(1, xi 5), (0, xr 143)]) (st' := [xi 5, xi 5]) rfl ?_
  refine ex_st 1 (pc' := 56) (ls' := [(1, xi 5), (0, xr 143)]) (st' := []) rfl ?_
  refine ex_retv rfl rfl ?_
  refine ⟨rfl, _, rfl, ?_⟩
  generalize hM : (x_up (x_up (x_up (x_up (x_up (x_up (x_up (x_up (x_up I 143 32 2000000000) 143 33 (I 143 1)) 143 34 (I 143 3)) 143 35 (I 143 4)) 163 0 (I 149 0)) 163 1 (I 149 1)) 163 2 (I 149 2)) 163 3 (I 149 3)) 163 4 (I 149 4)) = K
  refine ⟨by rw [← hM]; (repeat (first | rw [x_up_far (by omega)] | rw [x_up_at2 (by omega) (by omega)])), by rw [← hM]; (repeat (first | rw [x_up_far (by omega)] | rw [x_up_at2 (by omega) (by omega)])), by rw [← hM]; (repeat (first | rw [x_up_far (by omega)] | rw [x_up_at2 (by omega) (by omega)])), by rw [← hM]; (repeat (first | rw [x_up_far (by omega)] | rw [x_up_at2 (by omega) (by omega)])), fun x hx => ?_, fun k j hk => by rw [← hM]; (repeat rw [x_up_far (by omega)])⟩
  rcases (show x = 0 ∨ x = 1 ∨ x = 2 ∨ x = 3 ∨ x = 4 by omega) with rfl | rfl | rfl | rfl | rfl <;> (rw [← hM]; (repeat (first | rw [x_up_far (by omega)] | rw [x_up_at2 (by omega) (by omega)])))
theorem ct_m_putBack {sc : List Int} {I : Nat → Nat → Int} {L : Nat → Nat → Int64} : x_CQ sc 1 xN_m_putBack [xr 143] (xSH, I, L) (fun r m' => r = none ∧ ∃ K, m' = (xSH, K, L) ∧ K 143 32 = 9999 ∧ K 143 1 = I 143 33 ∧ K 143 3 = I 143 34 ∧ K 143 4 = I 143 35 ∧ (∀ x, x < 5 → K 149 x = I 163 x) ∧ ∀ k j, ¬ ((k = 143 ∧ (j = 32 ∨ j = 1 ∨ j = 3 ∨ j = 4)) ∨ (k = 149 ∧ j < 5)) → K k j = I k j) := by
  refine x_CQ.of (M := xM_m_putBack) rfl (Nat.le_of_ble_eq_true rfl) ?_
  refine ex_st 2 (pc' := 4) (ls' := [(0, xr 143)]) (st' := [xi 9999, xr 143]) rfl ?_
  refine ex_pfi rfl (by decide) (rfl : xSH[143]? = some _) (by decide) rfl (by decide) (fun h => by cases h) ?_
  refine ex_st 2 (pc' := 9) (ls' := [(0, xr 143)]) (st' := [xr 143, xr 143]) rfl ?_
  refine ex_gfi rfl (by decide) (rfl : xSH[143]? = some _) (by decide) (by decide) rfl ?_
  rw [x_up_far (k := 143) (j := 33) (k0 := 143) (j0 := 32) (by decide)]
  refine ex_pfi rfl (by decide) (rfl : xSH[143]? = some _) (by decide) rfl (by decide) (fun h => by cases h) ?_
  refine ex_st 2 (pc' := 17) (ls' := [(0, xr 143)]) (st' := [xr 143, xr 143]) rfl ?_
  refine ex_gfi rfl (by decide) (rfl : xSH[143]? = some _) (by decide) (by decide) rfl ?_
  rw [x_up_far (k := 143) (j := 34) (k0 := 143) (j0 := 1) (by decide), x_up_far (k := 143) (j := 34) (k0 := 143) (j0 := 32) (by decide)]
  refine ex_pfi rfl (by decide) (rfl : xSH[143]? = some _) (by decide) rfl (by decide) (fun h => by cases h) ?_
  refine ex_st 2 (pc' := 25) (ls' := [(0, xr 143)]) (st' := [xr 143, xr 143]) rfl ?_
  refine ex_gfi rfl (by decide) (rfl : xSH[143]? = some _) (by decide) (by decide) rfl ?_
  rw [x_up_far (k := 143) (j := 35) (k0 := 143) (j0 := 3) (by decide), x_up_far (k := 143) (j := 35) (k0 := 143) (j0 := 1) (by decide), x_up_far (k := 143) (j := 35) (k0 := 143) (j0 := 32) (by decide)]
  refine ex_pfi rfl (by decide) (rfl : xSH[143]? = some _) (by decide) rfl (by decide) (fun h => by cases h) ?_
  refine ex_st 4 (pc' := 35) (ls' := [(1, xi 0), (0, xr 143)]) (st' := [xi 5, xi 0]) rfl ?_
  refine ex_st 1 (pc' := 38) (ls' := [(1, xi 0), (0, xr 143)]) (st' := []) rfl ?_
  refine ex_st 6 (pc' := 48) (ls' := [(1, xi 0), (0, xr 143)]) (st' := [xi 0, xr 163, xi 0, xr 149]) rfl ?_
  refine ex_iald (j := 0) rfl (by decide) (rfl : xSH[163]? = some _) (by decide) (by decide) (by decide) ?_
  rw [x_up_far (k := 163) (j := 0) (k0 := 143) (j0 := 4) (by decide), x_up_far (k := 163) (j := 0) (k0 := 143) (j0 := 3) (by decide), x_up_far (k := 163) (j := 0) (k0 := 143) (j0 := 1) (by decide), x_up_far (k := 163) (j := 0) (k0 := 143) (j0 := 32) (by decide)]
  refine ex_iast (j := 0) rfl (by decide) (rfl : xSH[149]? = some _) (by decide) (by decide) (by decide) ?_
  refine ex_st 4 (pc' := 35) (ls' := [(1, xi 1), (0, xr 143)]) (st' := [xi 5, xi 1]) rfl ?_
  refine ex_st 1 (pc' := 38) (ls' := [(1, xi 1), (0, xr 143)]) (st' := []) rfl ?_
  refine ex_st 6 (pc' := 48) (ls' := [(1, xi 1), (0, xr 143)]) (st' := [xi 1, xr 163, xi 1, xr 149]) rfl ?_
  refine ex_iald (j := 1) rfl (by decide) (rfl : xSH[163]? = some _) (by decide) (by decide) (by decide) ?_
  rw [x_up_far (k := 163) (j := 1) (k0 := 149) (j0 := 0) (by decide), x_up_far (k := 163) (j := 1) (k0 := 143) (j0 := 4) (by decide), x_up_far (k := 163) (j := 1) (k0 := 143) (j0 := 3) (by decide), x_up_far (k := 163) (j := 1) (k0 := 143) (j0 := 1) (by decide), x_up_far (k := 163) (j := 1) (k0 := 143) (j0 := 32) (by decide)]
  refine ex_iast (j := 1) rfl (by decide) (rfl : xSH[149]? = some _) (by decide) (by decide) (by decide) ?_
  refine ex_st 4 (pc' := 35) (ls' := [(1, xi 2), (0, xr 143)]) (st' := [xi 5, xi 2]) rfl ?_
  refine ex_st 1 (pc' := 38) (ls' := [(1, xi 2), (0, xr 143)]) (st' := []) rfl ?_
  refine ex_st 6 (pc' := 48) (ls' := [(1, xi 2), (0, xr 143)]) (st' := [xi 2, xr 163, xi 2, xr 149]) rfl ?_
  refine ex_iald (j := 2) rfl (by decide) (rfl : xSH[163]? = some _) (by decide) (by decide) (by decide) ?_
  rw [x_up_far (k := 163) (j := 2) (k0 := 149) (j0 := 1) (by decide), x_up_far (k := 163) (j := 2) (k0 := 149) (j0 := 0) (by decide), x_up_far (k := 163) (j := 2) (k0 := 143) (j0 := 4) (by decide), x_up_far (k := 163) (j := 2) (k0 := 143) (j0 := 3) (by decide), x_up_far (k := 163) (j := 2) (k0 := 143) (j0 := 1) (by decide), x_up_far (k := 163) (j := 2) (k0 := 143) (j0 := 32) (by decide)]
  refine ex_iast (j := 2) rfl (by decide) (rfl : xSH[149]? = some _) (by decide) (by decide) (by decide) ?_
  refine ex_st 4 (pc' := 35) (ls' := [(1, xi 3), (0, xr 143)]) (st' := [xi 5, xi 3]) rfl ?_
  refine ex_st 1 (pc' := 38) (ls' := [(1, xi 3), (0, xr 143)]) (st' := []) rfl ?_
  refine ex_st 6 (pc' := 48) (ls' := [(1, xi 3), (0, xr 143)]) (st' := [xi 3, xr 163, xi 3, xr 149]) rfl ?_
  refine ex_iald (j := 3) rfl (by decide) (rfl : xSH[163]? = some _) (by decide) (by decide) (by decide) ?_
  rw [x_up_far (k := 163) (j := 3) (k0 := 149) (j0 := 2) (by decide), x_up_far (k := 163) (j := 3) (k0 := 149) (j0 := 1) (by decide), x_up_far (k := 163) (j := 3) (k0 := 149) (j0 := 0) (by decide), x_up_far (k := 163) (j := 3) (k0 := 143) (j0 := 4) (by decide), x_up_far (k := 163) (j := 3) (k0 := 143) (j0 := 3) (by decide), x_up_far (k := 163) (j := 3) (k0 := 143) (j0 := 1) (by decide), x_up_far (k := 163) (j := 3) (k0 := 143) (j0 := 32) (by decide)]
  refine ex_iast (j := 3) rfl (by decide) (rfl : xSH[149]? = some _) (by decide) (by decide) (by decide) ?_
  refine ex_st 4 (pc' := 35) (ls' := [(1, xi 4), (0, xr 143)]) (st' := [xi 5, xi 4]) rfl ?_
  refine ex_st 1 (pc' := 38) (ls' := [(1, xi 4), (0, xr 143)]) (st' := []) rfl ?_
  refine ex_st 6 (pc' := 48) (ls' := [(1, xi 4), (0, xr 143)]) (st' := [xi 4, xr 163, xi 4, xr 149]) rfl ?_
  refine ex_iald (j := 4) rfl (by decide) (rfl : xSH[163]? = some _) (by decide) (by decide) (by decide) ?_
  rw [x_up_far (k := 163) (j := 4) (k0 := 149) (j0 := 3) (by decide), x_up_far (k := 163) (j := 4) (k0 := 149) (j0 := 2) (by decide), x_up_far (k := 163) (j := 4) (k0 := 149) (j0 := 1) (by decide), x_up_far (k := 163) (j := 4) (k0 := 149) (j0 := 0) (by decide), x_up_far (k := 163) (j := 4) (k0 := 143) (j0 := 4) (by decide), x_up_far (k := 163) (j := 4) (k0 := 143) (j0 := 3) (by decide), x_up_far (k := 163) (j := 4) (k0 := 143) (j0 := 1) (by decide), x_up_far (k := 163) (j := 4) (k0 := 143) (j0 := 32) (by decide)]
  refine ex_iast (j := 4) rfl (by decide) (rfl : xSH[149]? = some _) (by decide) (by decide) (by decide) ?_
  refine ex_st 4 (pc' := 35) (ls' := [(1, xi 5), (0, xr 143)]) (st' := [xi 5, xi 5]) rfl ?_
  refine ex_st 1 (pc' := 56) (ls' := [(1, xi 5), (0, xr 143)]) (st' := []) rfl ?_
  refine ex_retv rfl rfl ?_
  refine ⟨rfl, _, rfl, ?_⟩
  generalize hM : (x_up (x_up (x_up (x_up (x_up (x_up (x_up (x_up (x_up I 143 32 9999) 143 1 (I 143 33)) 143 3 (I 143 34)) 143 4 (I 143 35)) 149 0 (I 163 0)) 149 1 (I 163 1)) 149 2 (I 163 2)) 149 3 (I 163 3)) 149 4 (I 163 4)) = K
  refine ⟨by rw [← hM]; (repeat (first | rw [x_up_far (by omega)] | rw [x_up_at2 (by omega) (by omega)])), by rw [← hM]; (repeat (first | rw [x_up_far (by omega)] | rw [x_up_at2 (by omega) (by omega)])), by rw [← hM]; (repeat (first | rw [x_up_far (by omega)] | rw [x_up_at2 (by omega) (by omega)])), by rw [← hM]; (repeat (first | rw [x_up_far (by omega)] | rw [x_up_at2 (by omega) (by omega)])), fun x hx => ?_, fun k j hk => by rw [← hM]; (repeat rw [x_up_far (by omega)])⟩
  rcases (show x = 0 ∨ x = 1 ∨ x = 2 ∨ x = 3 ∨ x = 4 by omega) with rfl | rfl | rfl | rfl | rfl <;> (rw [← hM]; (repeat (first | rw [x_up_far (by omega)] | rw [x_up_at2 (by omega) (by omega)])))
theorem WB57.ww {I J : Nat → Nat → Int} (h : WB57_1 I J) {c : Nat} {kd : Nat → Nat} {vv vo aw : Nat → Int} {ba ro : Nat → Nat → Int} {egg : Int} {se : Nat} (hW : WW I 1 c kd vv vo aw ba ro egg se) : WW J 57 c kd vv vo aw ba ro egg se := by
  obtain ⟨w1, ⟨f1, f4, f5, f6, f7⟩, w3, w4, w5, w6, w7, w8, w9⟩ := h
  obtain ⟨g1, g2, g3, g4, g5, g6, g7⟩ := hW
  refine ⟨by rw [f1]; exact g1, g2, by rw [f5]; exact g3, g4, by rw [f6]; exact g5, g6, fun p hp => ?_⟩
  obtain ⟨⟨q1, q2, q3, q4, q5⟩, k2, k3, k4, k5, k6, k7, k8⟩ := g7 p hp
  obtain ⟨a1, a2, a3⟩ := w1 p (by omega)
  have e0 := a1 0 (by decide)
  have e1 := a1 1 (by decide)
  have e2 := a1 2 (by decide)
  have e3 := a1 3 (by decide)
  refine ⟨⟨?_, q2, ?_, q4, fun j hj => ?_⟩, ?_, k3, ?_, k5, fun x hx => ?_, k7, k8⟩
  · show J (67 + 3 * p) 0 = _; rw [e0]; exact q1
  · show J (67 + 3 * p) 1 = _; rw [e1]; exact q3
  · show J (67 + 3 * p + 2) j = _; rw [a3 j hj]; exact q5 j hj
  · show J (67 + 3 * p) 2 = _; rw [e2]; exact k2
  · show J (67 + 3 * p) 3 = _; rw [e3]; exact k4
  · show J (67 + 3 * p + 1) x = _ ∧ _; rw [a2 x hx]; exact k6 x hx
/-- the trial is as the world that is -/
theorem WB57.sw {I J : Nat → Nat → Int} (h : WB57_1 I J) {c : Nat} {kd : Nat → Nat} {vv vo : Nat → Int} {ba ro : Nat → Nat → Int} {s : St4} (hS : SW I 1 c kd vv vo ba ro s) : SW J 57 c kd vv vo ba ro s := by
  refine ⟨WB57.ww h hS.1, fun x hx => ?_⟩
  show J 59 x = _
  rw [h.2.2.1 x hx]
  exact hS.2 x hx
/-- back where it was -/
theorem Rl.back {I K : Nat → Nat → Int} {L : Nat → Nat → Int64} (h : Rl I L) (hf : ∀ k j, ¬ (x_scr k j ∨ (k = 143 ∧ (j = 32 ∨ j = 1 ∨ j = 3 ∨ j = 4)) ∨ (k = 149 ∧ j < 5)) → K k j = I k j) (h32 : K 143 32 = 9999) (h1 : K 143 1 = I 143 1) (h3 : K 143 3 = I 143 3) (h4 : K 143 4 = I 143 4) (hd : ∀ x, x < 5 → K 149 x = I 149 x) : Rl K L := by
  refine h.fr (fun k j hk => ?_) (fun _ _ => rfl)
  by_cases a : k = 143 ∧ (j = 32 ∨ j = 1 ∨ j = 3 ∨ j = 4)
  · have h9 : I 143 32 = 9999 := h.2.2.2.2.2.1.2.2.1
    obtain ⟨rfl, rfl | rfl | rfl | rfl⟩ := a
    · rw [h32, h9]
    · exact h1
    · exact h3
    · exact h4
  · by_cases b : k = 149 ∧ j < 5
    · obtain ⟨rfl, hb⟩ := b; exact hd j hb
    · exact hf k j (fun q => q.elim hk (fun q => q.elim a b))
set_option maxRecDepth 8000 in
set_option maxHeartbeats 2000000 in
theorem op_on_0 {sc : List Int} {I : Nat → Nat → Int} {L : Nat → Nat → Int64} (hR : Rl I L) {u : Nat} (hu : u ≤ 60) : x_PQ sc xN_G_on [xr 0, xi (↑u), xi 0] xN_m_on [xr 143, xi (↑u), xi 0] (xSH, I, L) := by
  obtain ⟨⟨hNs, hNo, hNa, hNb, hNr, hNd, hNg, hNe, hNp, hNk⟩, hI, hT, hX, hC, hH, hQ⟩ := id hR
  have hs := hNs
  unfold RNs at hs
  obtain ⟨c, kd, vv, vo, aw, ba, ro, egg, se, hWW, hM⟩ := hR.vw
  have hT2 := hT
  unfold RT at hT2
  obtain ⟨T, nn, cc, cd, we, en, qv, hXt⟩ := RT.tr hT (t := I 143 13) (by omega) (by omega)
  have hX2 := id hXt
  obtain ⟨u1, u2, u3, u4, u5, u6, u7, u8, u9, u10⟩ := hX2
  have hMT := u10 rfl
  obtain ⟨g, hg1, hg, hgs, hgp⟩ := hM.pres
  have hI17 : I 1 7 = I 143 13 := by omega
  have hs64 := sp_mask64 (sp_nz aw) (n := c) (by have := hWW.2.1; omega)
  have hsN : sp_mask (sp_nz aw) c = (((sp_mask (sp_nz aw) c).toNat : Nat) : Int) := by have := (sp_mask_bd (sp_nz aw) c).1; omega
  obtain ⟨hg_1, hg_2, hg_3, hg_4, hg_5, hg_6⟩ := id hNg
  obtain ⟨n, hn⟩ := Int.eq_ofNat_of_zero_le hg_2
  obtain ⟨ag, hag0⟩ : ∃ ag : Nat → Nat, ∀ k, ag k = (I 150 k).toNat := ⟨_, fun _ => rfl⟩
  have hag : ∀ k, k < n → I 150 k = (ag k : Int) ∧ ag k < 5 := fun k hk => by have h1 := hg_5 k (by omega); have h2 := hag0 k; omega
  have hvo : ∀ p, p < c → 0 ≤ vo p ∧ vo p ≤ 9 := fun p hp => (hM.2.2.2.2.2.2.2 p hp).2.2.2.2.2.1
  obtain ⟨s0, hs0⟩ : ∃ s0 : St4, s0 = (aw, egg, se, fun x => I 149 x) := ⟨_, rfl⟩
  have hSW0 : SW I 1 c kd vv vo ba ro s0 := by subst hs0; exact ⟨hWW, fun x hx => (hNd x hx).1⟩
  have hSM0 : SM I c kd vv vo ba ro s0 := by subst hs0; exact ⟨hM, fun x hx => rfl⟩
  have hegg := hM.2.2.1
  have hse0 := hM.2.2.2.2.1
  have hSI0 : SI s0 := by subst hs0; exact ⟨fun x hx => by have := hNd x hx; show 0 ≤ I 149 x ∧ I 149 x ≤ (se : Int); omega, by show 0 ≤ egg; omega, by show egg ≤ 9; omega⟩
  have hs0e : s0.2.2.1 = se := by subst hs0; rfl
  have hn5 : n ≤ 5 := by omega
  have hag1 : ∀ k, k < n → I 4 k = (ag k : Int) ∧ ag k < 5 := fun k hk => by rw [hg_4 k (by omega)]; exact hag k hk
  have hn1 : I 1 4 = (n : Int) := by omega
  have hb01 : ∀ p, p < 6 → I (11 + 3 * p) 3 = 0 ∨ I (11 + 3 * p) 3 = 1 := fun p hp => by rw [hNa.1 p hp]; exact x_b01 _
  have hze : 0 ≤ I 5 2 ∧ I 5 2 ≤ 5 := by have h1 := hNe.1; have h2 := hNe.2.1; have h3 := hNe.2.2.1; omega
  have hzp : 0 ≤ I 7 2 ∧ I 7 2 ≤ 10 := by have h1 := hNp.1; have h2 := hNp.2.1; have h3 := hNp.2.2.1; omega
  have hzk : 0 ≤ I 9 2 ∧ I 9 2 ≤ 8 := by have h1 := hNk.1; have h2 := hNk.2.1; have h3 := hNk.2.2.1; omega
  refine x_CQ.of (M := xM_G_on) rfl (Nat.le_of_ble_eq_true rfl) ?_
  refine ex_st 1 (pc' := 1) (ls' := [(0, xr 0), (1, xi (↑u)), (2, xi 0)]) (st' := [xi 0]) rfl ?_
  refine ex_call (ct_G_isZeroOrOne (by first | omega | (constructor <;> omega) | assumption)) (by decide) rfl ⟨rfl, rfl, rfl⟩ ⟨Nat.le_of_ble_eq_true rfl, rfl, rfl⟩ (Nat.le_of_ble_eq_true rfl) rfl ?_
  refine ex_bne rfl (fun h0 => ?_) (fun h0 => ?_)
  · refine ex_st 1 (pc' := 20) (ls' := [(0, xr 0), (1, xi (↑u)), (2, xi 0)]) (st' := [xi (↑u)]) rfl ?_
    refine ex_if rfl (by first | omega | (constructor <;> omega) | assumption) (fun (h1 : (↑u : Int) < 0) => ?_) (fun (h1 : ¬ (↑u : Int) < 0) => ?_)
    · exfalso; omega
    · refine ex_st 2 (pc' := 26) (ls' := [(0, xr 0), (1, xi (↑u)), (2, xi 0)]) (st' := [xi 60, xi (↑u)]) rfl ?_
      refine ex_ic rfl (by first | omega | (constructor <;> omega) | assumption) (by decide) (fun (h2 : (↑u : Int) ≤ 60) => ?_) (fun (h2 : ¬ (↑u : Int) ≤ 60) => ?_)
      · refine ex_st 4 (pc' := 40) (ls' := [(0, xr 0), (1, xi (↑u)), (2, xi 0)]) (st' := [xr 1, xr 57]) rfl ?_
        refine ex_callQ (ct_W_become57_1 (L := L) hb01 hze hzp hzk) (by decide) rfl ⟨rfl, rfl, rfl⟩ ⟨Nat.le_of_ble_eq_true rfl, rfl, rfl⟩ (Nat.le_of_ble_eq_true rfl) rfl (fun ra m2 hQ => ?_)
        obtain ⟨rfl, J0, rfl, hWB⟩ := hQ
        have hJ0 : ∀ k j, ¬ (57 ≤ k ∧ k ≤ 84) → J0 k j = I k j := hWB.2.2.2.2.2.2.2.2
        have hSW0b := WB57.sw hWB hSW0
        have hXt0 := hXt.fr (I' := J0) (fun k j a b => hJ0 k j (by omega))
        have hI57 : J0 57 7 = I 143 13 := by rw [hWB.2.1.2.2.2.2]; exact hI17
        have hn57 : J0 57 4 = (n : Int) := by rw [hWB.2.1.2.1]; exact hn1
        have hag57 : ∀ k, k < n → J0 60 k = (ag k : Int) ∧ ag k < 5 := fun k hk => by rw [hWB.2.2.2.1 k (by omega)]; exact hag1 k hk
        refine ex_st 2 (pc' := 45) (ls' := [(3, xi 0), (0, xr 0), (1, xi (↑u)), (2, xi 0)]) (st' := []) rfl ?_
        refine lp_Gon (L := L) (w1 := 0) (u := u) (by omega) 0 (Nat.zero_le _) s0 J0 hSW0b hSI0 (by omega) hXt0 hI57 hn57 hn5 hag57 (fun J hSJ hJ1 => ?_)
        rw [show u - 0 = u from rfl] at hSJ
        have hJ : ∀ k j, ¬ ((57 ≤ k ∧ k ≤ 84) ∨ (92 ≤ k ∧ k ≤ 103)) → J k j = I k j := fun k j hk => by rw [hJ1 _ _ (by unfold GFW; omega), hJ0 _ _ (by omega)]
        have hJ5 : J 57 5 = (sp_it (sp_D kd vv vo ba ro cd we en cc qv c n ag) u s0).2.1 := hSJ.1.2.2.1
        have hPb1 : J 143 1 = I 143 1 := hJ _ _ (by omega)
        have hPb3 : J 143 3 = I 143 3 := hJ _ _ (by omega)
        have hPb4 : J 143 4 = I 143 4 := hJ _ _ (by omega)
        have hPbd : ∀ x, x < 5 → J 149 x = I 149 x := fun x hx => hJ _ _ (by omega)
        refine ex_st 1 (pc' := 65) (ls' := [(3, xi (↑u)), (0, xr 0), (1, xi (↑u)), (2, xi 0)]) (st' := [xi 0]) rfl ?_
        refine ex_st 1 (pc' := 68) (ls' := [(3, xi (↑u)), (0, xr 0), (1, xi (↑u)), (2, xi 0)]) (st' := []) rfl ?_
        refine ex_st 3 (pc' := 75) (ls' := [(3, xi (↑u)), (0, xr 0), (1, xi (↑u)), (2, xi 0)]) (st' := [xi (J 57 5)]) rfl ?_
        rw [hJ5]
        refine ex_reti rfl rfl ?_
        refine x_CQ.of (M := xM_m_on) rfl (Nat.le_of_ble_eq_true rfl) ?_
        refine ex_st 4 (pc' := 4) (ls' := [(0, xr 143), (1, xi (↑u)), (2, xi 0)]) (st' := [xi 1, xi 0, xi 0, xr 143]) rfl ?_
        refine ex_call (ct_m_in (by first | omega | (constructor <;> omega) | assumption) (by first | omega | (constructor <;> omega) | assumption) (by first | omega | (constructor <;> omega) | assumption)) (by decide) rfl ⟨rfl, rfl, rfl⟩ ⟨Nat.le_of_ble_eq_true rfl, rfl, rfl⟩ (Nat.le_of_ble_eq_true rfl) rfl ?_
        refine ex_bne rfl (fun h3 => ?_) (fun h3 => ?_)
        · refine ex_st 2 (pc' := 26) (ls' := [(0, xr 143), (1, xi (↑u)), (2, xi 0)]) (st' := [xi (↑u), xr 143]) rfl ?_
          refine ex_call (ct_m_isSessions (by first | omega | (constructor <;> omega) | assumption)) (by decide) rfl ⟨rfl, rfl, rfl⟩ ⟨Nat.le_of_ble_eq_true rfl, rfl, rfl⟩ (Nat.le_of_ble_eq_true rfl) rfl ?_
          refine ex_bne rfl (fun h4 => ?_) (fun h4 => ?_)
          · refine ex_st 1 (pc' := 36) (ls' := [(0, xr 143), (1, xi (↑u)), (2, xi 0)]) (st' := [xr 143]) rfl ?_
            refine ex_callQ (ct_m_save (L := L)) (by decide) rfl ⟨rfl, rfl, rfl⟩ ⟨Nat.le_of_ble_eq_true rfl, rfl, rfl⟩ (Nat.le_of_ble_eq_true rfl) rfl (fun ra m2 hQ => ?_)
            obtain ⟨rfl, K1, rfl, k32, k33, k34, k35, k163, hK1⟩ := hQ
            have hK1I : ∀ k j, ¬ ((57 ≤ k ∧ k ≤ 84) ∨ (92 ≤ k ∧ k ≤ 103) ∨ (k = 143 ∧ (j = 32 ∨ j = 33 ∨ j = 34 ∨ j = 35)) ∨ (k = 163 ∧ j < 5)) → K1 k j = I k j := fun k j hk => by rw [hK1 _ _ (by omega), hJ _ _ (by omega)]
            have hSMK : SM K1 c kd vv vo ba ro s0 := ⟨hSM0.1.set (fun k j a b => hK1I k j (by omega)) (hK1I _ _ (by omega)) (hK1I _ _ (by omega)) ⟨by rw [hK1I _ _ (by omega)]; exact hSM0.1.2.2.1, hSM0.1.2.2.2.1⟩ ⟨by rw [hK1I _ _ (by omega)]; exact hSM0.1.2.2.2.2.1, hSM0.1.2.2.2.2.2.1⟩, fun x hx => by rw [hK1I _ _ (by omega)]; exact hSM0.2 x hx⟩
            have hTK := hMT.fr3 (I' := K1) (hK1I _ _ (by omega)) (fun k j a b => hK1I k j (by omega))
            have hnK : K1 143 2 = (n : Int) := by rw [hK1I _ _ (by omega)]; exact hn
            have hagK : ∀ k, k < n → K1 150 k = (ag k : Int) ∧ ag k < 5 := fun k hk => by rw [hK1I _ _ (by omega)]; exact hag k hk
            refine ex_st 2 (pc' := 41) (ls' := [(0, xr 143), (1, xi (↑u)), (2, xi 0)]) (st' := [xi (↑u), xr 143]) rfl ?_
            refine ex_callQ (ct_m_goSessions (L := L) hSMK hSI0 (u := u) (by omega) (by omega) hTK hnK hn5 hagK (md := 2000000000) k32 (by decide) (by omega)) (by decide) rfl ⟨rfl, rfl, rfl⟩ ⟨Nat.le_of_ble_eq_true rfl, rfl, rfl⟩ (Nat.le_of_ble_eq_true rfl) rfl (fun ra m2 hQ => ?_)
            obtain ⟨rfl, K2, rfl, hSK, hK2⟩ := hQ
            have hK2g : ∀ k j, ¬ ((160 ≤ k ∧ k ≤ 162) ∨ (k = 143 ∧ (j = 3 ∨ j = 4)) ∨ (k = 149 ∧ j < 5)) → K2 k j = K1 k j := fun k j hk => hK2 k j (by unfold GFM; omega)
            have hK5 : K2 143 3 = (sp_it (sp_D kd vv vo ba ro cd we en cc qv c n ag) u s0).2.1 := hSK.1.2.2.1
            refine ex_st 1 (pc' := 45) (ls' := [(0, xr 143), (1, xi (↑u)), (2, xi 0)]) (st' := [xi 0]) rfl ?_
            refine ex_st 1 (pc' := 48) (ls' := [(0, xr 143), (1, xi (↑u)), (2, xi 0)]) (st' := []) rfl ?_
            refine ex_st 2 (pc' := 52) (ls' := [(0, xr 143), (1, xi (↑u)), (2, xi 0)]) (st' := [xi (K2 143 3)]) rfl ?_
            rw [hK5]
            refine ex_st 3 (pc' := 78) (ls' := [(3, xi ((sp_it (sp_D kd vv vo ba ro cd we en cc qv c n ag) u s0).2.1)), (0, xr 143), (1, xi (↑u)), (2, xi 0)]) (st' := [xr 143]) rfl ?_
            refine ex_callQ (ct_m_putBack (L := L)) (by decide) rfl ⟨rfl, rfl, rfl⟩ ⟨Nat.le_of_ble_eq_true rfl, rfl, rfl⟩ (Nat.le_of_ble_eq_true rfl) rfl (fun ra m2 hQ => ?_)
            obtain ⟨rfl, K3, rfl, b32, b1, b3, b4, bd, hK3⟩ := hQ
            have hRl : Rl K3 L := hR.back (fun k j hk => by unfold x_scr at hk; rw [hK3 _ _ (by omega), hK2g _ _ (by omega), hK1I _ _ (by omega)]) b32 (by rw [b1, hK2g _ _ (by omega), k33, hPb1]) (by rw [b3, hK2g _ _ (by omega), k34, hPb3]) (by rw [b4, hK2g _ _ (by omega), k35, hPb4]) (fun x hx => by rw [bd x hx, hK2g _ _ (by omega), k163 x hx, hPbd x hx])
            refine ex_st 1 (pc' := 82) (ls' := [(3, xi ((sp_it (sp_D kd vv vo ba ro cd we en cc qv c n ag) u s0).2.1)), (0, xr 143), (1, xi (↑u)), (2, xi 0)]) (st' := [xi ((sp_it (sp_D kd vv vo ba ro cd we en cc qv c n ag) u s0).2.1)]) rfl ?_
            refine ex_reti rfl rfl ?_
            exact ⟨rfl, K3, _, rfl, hRl⟩
          · exfalso; omega
        · exfalso; omega
      · exfalso; omega
  · exfalso; omega
set_option maxRecDepth 8000 in
set_option maxHeartbeats 2000000 in
theorem op_on_1 {sc : List Int} {I : Nat → Nat → Int} {L : Nat → Nat → Int64} (hR : Rl I L) {u : Nat} (hu : u ≤ 60) : x_PQ sc xN_G_on [xr 0, xi (↑u), xi 1] xN_m_on [xr 143, xi (↑u), xi 1] (xSH, I, L) := by
  obtain ⟨⟨hNs, hNo, hNa, hNb, hNr, hNd, hNg, hNe, hNp, hNk⟩, hI, hT, hX, hC, hH, hQ⟩ := id hR
  have hs := hNs
  unfold RNs at hs
  obtain ⟨c, kd, vv, vo, aw, ba, ro, egg, se, hWW, hM⟩ := hR.vw
  have hT2 := hT
  unfold RT at hT2
  obtain ⟨T, nn, cc, cd, we, en, qv, hXt⟩ := RT.tr hT (t := I 143 13) (by omega) (by omega)
  have hX2 := id hXt
  obtain ⟨u1, u2, u3, u4, u5, u6, u7, u8, u9, u10⟩ := hX2
  have hMT := u10 rfl
  obtain ⟨g, hg1, hg, hgs, hgp⟩ := hM.pres
  have hI17 : I 1 7 = I 143 13 := by omega
  have hs64 := sp_mask64 (sp_nz aw) (n := c) (by have := hWW.2.1; omega)
  have hsN : sp_mask (sp_nz aw) c = (((sp_mask (sp_nz aw) c).toNat : Nat) : Int) := by have := (sp_mask_bd (sp_nz aw) c).1; omega
  obtain ⟨hg_1, hg_2, hg_3, hg_4, hg_5, hg_6⟩ := id hNg
  obtain ⟨n, hn⟩ := Int.eq_ofNat_of_zero_le hg_2
  obtain ⟨ag, hag0⟩ : ∃ ag : Nat → Nat, ∀ k, ag k = (I 150 k).toNat := ⟨_, fun _ => rfl⟩
  have hag : ∀ k, k < n → I 150 k = (ag k : Int) ∧ ag k < 5 := fun k hk => by have h1 := hg_5 k (by omega); have h2 := hag0 k; omega
  have hvo : ∀ p, p < c → 0 ≤ vo p ∧ vo p ≤ 9 := fun p hp => (hM.2.2.2.2.2.2.2 p hp).2.2.2.2.2.1
  obtain ⟨s0, hs0⟩ : ∃ s0 : St4, s0 = (aw, egg, se, fun x => I 149 x) := ⟨_, rfl⟩
  have hSW0 : SW I 1 c kd vv vo ba ro s0 := by subst hs0; exact ⟨hWW, fun x hx => (hNd x hx).1⟩
  have hSM0 : SM I c kd vv vo ba ro s0 := by subst hs0; exact ⟨hM, fun x hx => rfl⟩
  have hegg := hM.2.2.1
  have hse0 := hM.2.2.2.2.1
  have hSI0 : SI s0 := by subst hs0; exact ⟨fun x hx => by have := hNd x hx; show 0 ≤ I 149 x ∧ I 149 x ≤ (se : Int); omega, by show 0 ≤ egg; omega, by show egg ≤ 9; omega⟩
  have hs0e : s0.2.2.1 = se := by subst hs0; rfl
  have hn5 : n ≤ 5 := by omega
  have hag1 : ∀ k, k < n → I 4 k = (ag k : Int) ∧ ag k < 5 := fun k hk => by rw [hg_4 k (by omega)]; exact hag k hk
  have hn1 : I 1 4 = (n : Int) := by omega
  have hb01 : ∀ p, p < 6 → I (11 + 3 * p) 3 = 0 ∨ I (11 + 3 * p) 3 = 1 := fun p hp => by rw [hNa.1 p hp]; exact x_b01 _
  have hze : 0 ≤ I 5 2 ∧ I 5 2 ≤ 5 := by have h1 := hNe.1; have h2 := hNe.2.1; have h3 := hNe.2.2.1; omega
  have hzp : 0 ≤ I 7 2 ∧ I 7 2 ≤ 10 := by have h1 := hNp.1; have h2 := hNp.2.1; have h3 := hNp.2.2.1; omega
  have hzk : 0 ≤ I 9 2 ∧ I 9 2 ≤ 8 := by have h1 := hNk.1; have h2 := hNk.2.1; have h3 := hNk.2.2.1; omega
  refine x_CQ.of (M := xM_G_on) rfl (Nat.le_of_ble_eq_true rfl) ?_
  refine ex_st 1 (pc' := 1) (ls' := [(0, xr 0), (1, xi (↑u)), (2, xi 1)]) (st' := [xi 1]) rfl ?_
  refine ex_call (ct_G_isZeroOrOne (by first | omega | (constructor <;> omega) | assumption)) (by decide) rfl ⟨rfl, rfl, rfl⟩ ⟨Nat.le_of_ble_eq_true rfl, rfl, rfl⟩ (Nat.le_of_ble_eq_true rfl) rfl ?_
  refine ex_bne rfl (fun h0 => ?_) (fun h0 => ?_)
  · refine ex_st 1 (pc' := 20) (ls' := [(0, xr 0), (1, xi (↑u)), (2, xi 1)]) (st' := [xi (↑u)]) rfl ?_
    refine ex_if rfl (by first | omega | (constructor <;> omega) | assumption) (fun (h1 : (↑u : Int) < 0) => ?_) (fun (h1 : ¬ (↑u : Int) < 0) => ?_)
    · exfalso; omega
    · refine ex_st 2 (pc' := 26) (ls' := [(0, xr 0), (1, xi (↑u)), (2, xi 1)]) (st' := [xi 60, xi (↑u)]) rfl ?_
      refine ex_ic rfl (by first | omega | (constructor <;> omega) | assumption) (by decide) (fun (h2 : (↑u : Int) ≤ 60) => ?_) (fun (h2 : ¬ (↑u : Int) ≤ 60) => ?_)
      · refine ex_st 4 (pc' := 40) (ls' := [(0, xr 0), (1, xi (↑u)), (2, xi 1)]) (st' := [xr 1, xr 57]) rfl ?_
        refine ex_callQ (ct_W_become57_1 (L := L) hb01 hze hzp hzk) (by decide) rfl ⟨rfl, rfl, rfl⟩ ⟨Nat.le_of_ble_eq_true rfl, rfl, rfl⟩ (Nat.le_of_ble_eq_true rfl) rfl (fun ra m2 hQ => ?_)
        obtain ⟨rfl, J0, rfl, hWB⟩ := hQ
        have hJ0 : ∀ k j, ¬ (57 ≤ k ∧ k ≤ 84) → J0 k j = I k j := hWB.2.2.2.2.2.2.2.2
        have hSW0b := WB57.sw hWB hSW0
        have hXt0 := hXt.fr (I' := J0) (fun k j a b => hJ0 k j (by omega))
        have hI57 : J0 57 7 = I 143 13 := by rw [hWB.2.1.2.2.2.2]; exact hI17
        have hn57 : J0 57 4 = (n : Int) := by rw [hWB.2.1.2.1]; exact hn1
        have hag57 : ∀ k, k < n → J0 60 k = (ag k : Int) ∧ ag k < 5 := fun k hk => by rw [hWB.2.2.2.1 k (by omega)]; exact hag1 k hk
        refine ex_st 2 (pc' := 45) (ls' := [(3, xi 0), (0, xr 0), (1, xi (↑u)), (2, xi 1)]) (st' := []) rfl ?_
        refine lp_Gon (L := L) (w1 := 1) (u := u) (by omega) 0 (Nat.zero_le _) s0 J0 hSW0b hSI0 (by omega) hXt0 hI57 hn57 hn5 hag57 (fun J hSJ hJ1 => ?_)
        rw [show u - 0 = u from rfl] at hSJ
        have hJ : ∀ k j, ¬ ((57 ≤ k ∧ k ≤ 84) ∨ (92 ≤ k ∧ k ≤ 103)) → J k j = I k j := fun k j hk => by rw [hJ1 _ _ (by unfold GFW; omega), hJ0 _ _ (by omega)]
        have hJ5 : J 57 5 = (sp_it (sp_D kd vv vo ba ro cd we en cc qv c n ag) u s0).2.1 := hSJ.1.2.2.1
        have hPb1 : J 143 1 = I 143 1 := hJ _ _ (by omega)
        have hPb3 : J 143 3 = I 143 3 := hJ _ _ (by omega)
        have hPb4 : J 143 4 = I 143 4 := hJ _ _ (by omega)
        have hPbd : ∀ x, x < 5 → J 149 x = I 149 x := fun x hx => hJ _ _ (by omega)
        refine ex_st 1 (pc' := 65) (ls' := [(3, xi (↑u)), (0, xr 0), (1, xi (↑u)), (2, xi 1)]) (st' := [xi 1]) rfl ?_
        refine ex_st 1 (pc' := 76) (ls' := [(3, xi (↑u)), (0, xr 0), (1, xi (↑u)), (2, xi 1)]) (st' := []) rfl ?_
        refine ex_st 2 (pc' := 78) (ls' := [(3, xi (↑u)), (0, xr 0), (1, xi (↑u)), (2, xi 1)]) (st' := [xi 1, xi 1]) rfl ?_
        refine ex_st 1 (pc' := 81) (ls' := [(3, xi (↑u)), (0, xr 0), (1, xi (↑u)), (2, xi 1)]) (st' := []) rfl ?_
        refine ex_st 3 (pc' := 86) (ls' := [(3, xi (↑u)), (0, xr 0), (1, xi (↑u)), (2, xi 1)]) (st' := [xr 57, xr 0]) rfl ?_
        have hct := ct_G_doneByAgendaOf (sc := sc) (L := L) WS.mk57 hSJ.1 (hXt0.fr (I' := J) (fun k j a b => hJ1 k j (by unfold GFW; omega))) (by rw [hJ1 _ _ (by unfold GFW; omega)]; exact hI57) rfl (by rw [hJ1 _ _ (by unfold GFW; omega)]; exact hn57) hn5 (fun k hk => by rw [hJ1 _ _ (by unfold GFW; omega)]; exact hag57 k hk)
        change x_CQ sc 6 xN_G_doneByAgendaOf [xr 0, xr 57] (xSH, J, L) (fun r m' => r = some (xi (sp_D kd vv vo ba ro cd we en cc qv c n ag (sp_it (sp_D kd vv vo ba ro cd we en cc qv c n ag) u s0).1 (sp_it (sp_D kd vv vo ba ro cd we en cc qv c n ag) u s0).2.1 (sp_it (sp_D kd vv vo ba ro cd we en cc qv c n ag) u s0).2.2.1)) ∧ ∃ J2, m' = (xSH, J2, L) ∧ ∀ k j, k < 92 ∨ 102 < k → J2 k j = J k j) at hct
        refine ex_callQ hct (by decide) rfl ⟨rfl, rfl, rfl⟩ ⟨Nat.le_of_ble_eq_true rfl, rfl, rfl⟩ (Nat.le_of_ble_eq_true rfl) rfl (fun ra m2 hQ => ?_)
        obtain ⟨rfl, J2, rfl, hJ2⟩ := hQ
        have hJ2I : ∀ k j, ¬ ((57 ≤ k ∧ k ≤ 84) ∨ (92 ≤ k ∧ k ≤ 103)) → J2 k j = I k j := fun k j hk => by rw [hJ2 _ _ (by omega), hJ _ _ (by omega)]
        have hPb1 : J2 143 1 = I 143 1 := hJ2I _ _ (by omega)
        have hPb3 : J2 143 3 = I 143 3 := hJ2I _ _ (by omega)
        have hPb4 : J2 143 4 = I 143 4 := hJ2I _ _ (by omega)
        have hPbd : ∀ x, x < 5 → J2 149 x = I 149 x := fun x hx => hJ2I _ _ (by omega)
        refine ex_st 1 (pc' := 104) (ls' := [(3, xi (↑u)), (0, xr 0), (1, xi (↑u)), (2, xi 1)]) (st' := [xi (sp_D kd vv vo ba ro cd we en cc qv c n ag (sp_it (sp_D kd vv vo ba ro cd we en cc qv c n ag) u s0).1 (sp_it (sp_D kd vv vo ba ro cd we en cc qv c n ag) u s0).2.1 (sp_it (sp_D kd vv vo ba ro cd we en cc qv c n ag) u s0).2.2.1)]) rfl ?_
        refine ex_reti rfl rfl ?_
        refine x_CQ.of (M := xM_m_on) rfl (Nat.le_of_ble_eq_true rfl) ?_
        refine ex_st 4 (pc' := 4) (ls' := [(0, xr 143), (1, xi (↑u)), (2, xi 1)]) (st' := [xi 1, xi 0, xi 1, xr 143]) rfl ?_
        refine ex_call (ct_m_in (by first | omega | (constructor <;> omega) | assumption) (by first | omega | (constructor <;> omega) | assumption) (by first | omega | (constructor <;> omega) | assumption)) (by decide) rfl ⟨rfl, rfl, rfl⟩ ⟨Nat.le_of_ble_eq_true rfl, rfl, rfl⟩ (Nat.le_of_ble_eq_true rfl) rfl ?_
        refine ex_bne rfl (fun h3 => ?_) (fun h3 => ?_)
        · refine ex_st 2 (pc' := 26) (ls' := [(0, xr 143), (1, xi (↑u)), (2, xi 1)]) (st' := [xi (↑u), xr 143]) rfl ?_
          refine ex_call (ct_m_isSessions (by first | omega | (constructor <;> omega) | assumption)) (by decide) rfl ⟨rfl, rfl, rfl⟩ ⟨Nat.le_of_ble_eq_true rfl, rfl, rfl⟩ (Nat.le_of_ble_eq_true rfl) rfl ?_
          refine ex_bne rfl (fun h4 => ?_) (fun h4 => ?_)
          · refine ex_st 1 (pc' := 36) (ls' := [(0, xr 143), (1, xi (↑u)), (2, xi 1)]) (st' := [xr 143]) rfl ?_
            refine ex_callQ (ct_m_save (L := L)) (by decide) rfl ⟨rfl, rfl, rfl⟩ ⟨Nat.le_of_ble_eq_true rfl, rfl, rfl⟩ (Nat.le_of_ble_eq_true rfl) rfl (fun ra m2 hQ => ?_)
            obtain ⟨rfl, K1, rfl, k32, k33, k34, k35, k163, hK1⟩ := hQ
            have hK1I : ∀ k j, ¬ ((57 ≤ k ∧ k ≤ 84) ∨ (92 ≤ k ∧ k ≤ 103) ∨ (k = 143 ∧ (j = 32 ∨ j = 33 ∨ j = 34 ∨ j = 35)) ∨ (k = 163 ∧ j < 5)) → K1 k j = I k j := fun k j hk => by rw [hK1 _ _ (by omega), hJ2I _ _ (by omega)]
            have hSMK : SM K1 c kd vv vo ba ro s0 := ⟨hSM0.1.set (fun k j a b => hK1I k j (by omega)) (hK1I _ _ (by omega)) (hK1I _ _ (by omega)) ⟨by rw [hK1I _ _ (by omega)]; exact hSM0.1.2.2.1, hSM0.1.2.2.2.1⟩ ⟨by rw [hK1I _ _ (by omega)]; exact hSM0.1.2.2.2.2.1, hSM0.1.2.2.2.2.2.1⟩, fun x hx => by rw [hK1I _ _ (by omega)]; exact hSM0.2 x hx⟩
            have hTK := hMT.fr3 (I' := K1) (hK1I _ _ (by omega)) (fun k j a b => hK1I k j (by omega))
            have hnK : K1 143 2 = (n : Int) := by rw [hK1I _ _ (by omega)]; exact hn
            have hagK : ∀ k, k < n → K1 150 k = (ag k : Int) ∧ ag k < 5 := fun k hk => by rw [hK1I _ _ (by omega)]; exact hag k hk
            refine ex_st 2 (pc' := 41) (ls' := [(0, xr 143), (1, xi (↑u)), (2, xi 1)]) (st' := [xi (↑u), xr 143]) rfl ?_
            refine ex_callQ (ct_m_goSessions (L := L) hSMK hSI0 (u := u) (by omega) (by omega) hTK hnK hn5 hagK (md := 2000000000) k32 (by decide) (by omega)) (by decide) rfl ⟨rfl, rfl, rfl⟩ ⟨Nat.le_of_ble_eq_true rfl, rfl, rfl⟩ (Nat.le_of_ble_eq_true rfl) rfl (fun ra m2 hQ => ?_)
            obtain ⟨rfl, K2, rfl, hSK, hK2⟩ := hQ
            have hK2g : ∀ k j, ¬ ((160 ≤ k ∧ k ≤ 162) ∨ (k = 143 ∧ (j = 3 ∨ j = 4)) ∨ (k = 149 ∧ j < 5)) → K2 k j = K1 k j := fun k j hk => hK2 k j (by unfold GFM; omega)
            have hK5 : K2 143 3 = (sp_it (sp_D kd vv vo ba ro cd we en cc qv c n ag) u s0).2.1 := hSK.1.2.2.1
            refine ex_st 1 (pc' := 45) (ls' := [(0, xr 143), (1, xi (↑u)), (2, xi 1)]) (st' := [xi 1]) rfl ?_
            refine ex_st 1 (pc' := 55) (ls' := [(0, xr 143), (1, xi (↑u)), (2, xi 1)]) (st' := []) rfl ?_
            refine ex_st 2 (pc' := 57) (ls' := [(0, xr 143), (1, xi (↑u)), (2, xi 1)]) (st' := [xi 1, xi 1]) rfl ?_
            refine ex_st 1 (pc' := 60) (ls' := [(0, xr 143), (1, xi (↑u)), (2, xi 1)]) (st' := []) rfl ?_
            refine ex_st 1 (pc' := 61) (ls' := [(0, xr 143), (1, xi (↑u)), (2, xi 1)]) (st' := [xr 143]) rfl ?_
            obtain ⟨g9, hg91, hg9, hgs9, hgp9⟩ := hSK.1.pres
            have hcm := ct_m_doneNow (sc := sc) (L := L) hSK.1 (hTK.fr3 (I' := K2) (hK2g _ _ (by omega)) (fun k j a b => hK2g k j (by omega))) hg91 hg9 hgs9 (by rw [hK2g _ _ (by omega)]; exact hnK) hn5 (fun k hk => by rw [hK2g _ _ (by omega)]; exact hagK k hk)
            change x_CQ sc 7 xN_m_doneNow [xr 143] (xSH, K2, L) (fun r m' => r = some (xi (sp_D kd vv vo ba ro cd we en cc qv c n ag (sp_it (sp_D kd vv vo ba ro cd we en cc qv c n ag) u s0).1 (sp_it (sp_D kd vv vo ba ro cd we en cc qv c n ag) u s0).2.1 (sp_it (sp_D kd vv vo ba ro cd we en cc qv c n ag) u s0).2.2.1)) ∧ ∃ I', m' = (xSH, I', L) ∧ ∀ k j, ¬ (160 ≤ k ∧ k ≤ 162) → I' k j = K2 k j) at hcm
            refine ex_callQ hcm (by decide) rfl ⟨rfl, rfl, rfl⟩ ⟨Nat.le_of_ble_eq_true rfl, rfl, rfl⟩ (Nat.le_of_ble_eq_true rfl) rfl (fun ra m2 hQ => ?_)
            obtain ⟨rfl, K4, rfl, hK4⟩ := hQ
            have hK4g : ∀ k j, ¬ ((160 ≤ k ∧ k ≤ 162) ∨ (k = 143 ∧ (j = 3 ∨ j = 4)) ∨ (k = 149 ∧ j < 5)) → K4 k j = K1 k j := fun k j hk => by rw [hK4 _ _ (by omega), hK2g _ _ (by omega)]
            refine ex_st 3 (pc' := 78) (ls' := [(3, xi (sp_D kd vv vo ba ro cd we en cc qv c n ag (sp_it (sp_D kd vv vo ba ro cd we en cc qv c n ag) u s0).1 (sp_it (sp_D kd vv vo ba ro cd we en cc qv c n ag) u s0).2.1 (sp_it (sp_D kd vv vo ba ro cd we en cc qv c n ag) u s0).2.2.1)), (0, xr 143), (1, xi (↑u)), (2, xi 1)]) (st' := [xr 143]) rfl ?_
            refine ex_callQ (ct_m_putBack (L := L)) (by decide) rfl ⟨rfl, rfl, rfl⟩ ⟨Nat.le_of_ble_eq_true rfl, rfl, rfl⟩ (Nat.le_of_ble_eq_true rfl) rfl (fun ra m2 hQ => ?_)
            obtain ⟨rfl, K3, rfl, b32, b1, b3, b4, bd, hK3⟩ := hQ
            have hRl : Rl K3 L := hR.back (fun k j hk => by unfold x_scr at hk; rw [hK3 _ _ (by omega), hK4g _ _ (by omega), hK1I _ _ (by omega)]) b32 (by rw [b1, hK4g _ _ (by omega), k33, hPb1]) (by rw [b3, hK4g _ _ (by omega), k34, hPb3]) (by rw [b4, hK4g _ _ (by omega), k35, hPb4]) (fun x hx => by rw [bd x hx, hK4g _ _ (by omega), k163 x hx, hPbd x hx])
            refine ex_st 1 (pc' := 82) (ls' := [(3, xi (sp_D kd vv vo ba ro cd we en cc qv c n ag (sp_it (sp_D kd vv vo ba ro cd we en cc qv c n ag) u s0).1 (sp_it (sp_D kd vv vo ba ro cd we en cc qv c n ag) u s0).2.1 (sp_it (sp_D kd vv vo ba ro cd we en cc qv c n ag) u s0).2.2.1)), (0, xr 143), (1, xi (↑u)), (2, xi 1)]) (st' := [xi (sp_D kd vv vo ba ro cd we en cc qv c n ag (sp_it (sp_D kd vv vo ba ro cd we en cc qv c n ag) u s0).1 (sp_it (sp_D kd vv vo ba ro cd we en cc qv c n ag) u s0).2.1 (sp_it (sp_D kd vv vo ba ro cd we en cc qv c n ag) u s0).2.2.1)]) rfl ?_
            refine ex_reti rfl rfl ?_
            exact ⟨rfl, K3, _, rfl, hRl⟩
          · exfalso; omega
        · exfalso; omega
      · exfalso; omega
  · exfalso; omega
set_option maxRecDepth 8000 in
set_option maxHeartbeats 2000000 in
theorem op_on_10 {sc : List Int} {I : Nat → Nat → Int} {L : Nat → Nat → Int64} (hR : Rl I L) {u : Nat} (hu : u ≤ 60) : x_PQ sc xN_G_on [xr 0, xi (↑u), xi 10] xN_m_on [xr 143, xi (↑u), xi 10] (xSH, I, L) := by
  obtain ⟨⟨hNs, hNo, hNa, hNb, hNr, hNd, hNg, hNe, hNp, hNk⟩, hI, hT, hX, hC, hH, hQ⟩ := id hR
  have hs := hNs
  unfold RNs at hs
  obtain ⟨c, kd, vv, vo, aw, ba, ro, egg, se, hWW, hM⟩ := hR.vw
  have hT2 := hT
  unfold RT at hT2
  obtain ⟨T, nn, cc, cd, we, en, qv, hXt⟩ := RT.tr hT (t := I 143 13) (by omega) (by omega)
  have hX2 := id hXt
  obtain ⟨u1, u2, u3, u4, u5, u6, u7, u8, u9, u10⟩ := hX2
  have hMT := u10 rfl
  obtain ⟨g, hg1, hg, hgs, hgp⟩ := hM.pres
  have hI17 : I 1 7 = I 143 13 := by omega
  have hs64 := sp_mask64 (sp_nz aw) (n := c) (by have := hWW.2.1; omega)
  have hsN : sp_mask (sp_nz aw) c = (((sp_mask (sp_nz aw) c).toNat : Nat) : Int) := by have := (sp_mask_bd (sp_nz aw) c).1; omega
  obtain ⟨hg_1, hg_2, hg_3, hg_4, hg_5, hg_6⟩ := id hNg
  obtain ⟨n, hn⟩ := Int.eq_ofNat_of_zero_le hg_2
  obtain ⟨ag, hag0⟩ : ∃ ag : Nat → Nat, ∀ k, ag k = (I 150 k).toNat := ⟨_, fun _ => rfl⟩
  have hag : ∀ k, k < n → I 150 k = (ag k : Int) ∧ ag k < 5 := fun k hk => by have h1 := hg_5 k (by omega); have h2 := hag0 k; omega
  have hvo : ∀ p, p < c → 0 ≤ vo p ∧ vo p ≤ 9 := fun p hp => (hM.2.2.2.2.2.2.2 p hp).2.2.2.2.2.1
  obtain ⟨s0, hs0⟩ : ∃ s0 : St4, s0 = (aw, egg, se, fun x => I 149 x) := ⟨_, rfl⟩
  have hSW0 : SW I 1 c kd vv vo ba ro s0 := by subst hs0; exact ⟨hWW, fun x hx => (hNd x hx).1⟩
  have hSM0 : SM I c kd vv vo ba ro s0 := by subst hs0; exact ⟨hM, fun x hx => rfl⟩
  have hegg := hM.2.2.1
  have hse0 := hM.2.2.2.2.1
  have hSI0 : SI s0 := by subst hs0; exact ⟨fun x hx => by have := hNd x hx; show 0 ≤ I 149 x ∧ I 149 x ≤ (se : Int); omega, by show 0 ≤ egg; omega, by show egg ≤ 9; omega⟩
  have hs0e : s0.2.2.1 = se := by subst hs0; rfl
  have hn5 : n ≤ 5 := by omega
  have hag1 : ∀ k, k < n → I 4 k = (ag k : Int) ∧ ag k < 5 := fun k hk => by rw [hg_4 k (by omega)]; exact hag k hk
  have hn1 : I 1 4 = (n : Int) := by omega
  have hb01 : ∀ p, p < 6 → I (11 + 3 * p) 3 = 0 ∨ I (11 + 3 * p) 3 = 1 := fun p hp => by rw [hNa.1 p hp]; exact x_b01 _
  have hze : 0 ≤ I 5 2 ∧ I 5 2 ≤ 5 := by have h1 := hNe.1; have h2 := hNe.2.1; have h3 := hNe.2.2.1; omega
  have hzp : 0 ≤ I 7 2 ∧ I 7 2 ≤ 10 := by have h1 := hNp.1; have h2 := hNp.2.1; have h3 := hNp.2.2.1; omega
  have hzk : 0 ≤ I 9 2 ∧ I 9 2 ≤ 8 := by have h1 := hNk.1; have h2 := hNk.2.1; have h3 := hNk.2.2.1; omega
  refine x_CQ.of (M := xM_G_on) rfl (Nat.le_of_ble_eq_true rfl) ?_
  refine ex_st 1 (pc' := 1) (ls' := [(0, xr 0), (1, xi (↑u)), (2, xi 10)]) (st' := [xi 10]) rfl ?_
  refine ex_call (ct_G_isZeroOrOne (by first | omega | (constructor <;> omega) | assumption)) (by decide) rfl ⟨rfl, rfl, rfl⟩ ⟨Nat.le_of_ble_eq_true rfl, rfl, rfl⟩ (Nat.le_of_ble_eq_true rfl) rfl ?_
  refine ex_bne rfl (fun h0 => ?_) (fun h0 => ?_)
  · exfalso; omega
  · refine ex_st 3 (pc' := 11) (ls' := [(0, xr 0), (1, xi (↑u)), (2, xi 10)]) (st' := [xi 0]) rfl ?_
    refine ex_call (ct_G_isThing2 (by omega)) (by decide) rfl ⟨rfl, rfl, rfl⟩ ⟨Nat.le_of_ble_eq_true rfl, rfl, rfl⟩ (Nat.le_of_ble_eq_true rfl) rfl ?_
    refine ex_bne rfl (fun h1 => ?_) (fun h1 => ?_)
    · refine ex_st 1 (pc' := 20) (ls' := [(0, xr 0), (1, xi (↑u)), (2, xi 10)]) (st' := [xi (↑u)]) rfl ?_
      refine ex_if rfl (by first | omega | (constructor <;> omega) | assumption) (fun (h2 : (↑u : Int) < 0) => ?_) (fun (h2 : ¬ (↑u : Int) < 0) => ?_)
      · exfalso; omega
      · refine ex_st 2 (pc' := 26) (ls' := [(0, xr 0), (1, xi (↑u)), (2, xi 10)]) (st' := [xi 60, xi (↑u)]) rfl ?_
        refine ex_ic rfl (by first | omega | (constructor <;> omega) | assumption) (by decide) (fun (h3 : (↑u : Int) ≤ 60) => ?_) (fun (h3 : ¬ (↑u : Int) ≤ 60) => ?_)
        · refine ex_st 4 (pc' := 40) (ls' := [(0, xr 0), (1, xi (↑u)), (2, xi 10)]) (st' := [xr 1, xr 57]) rfl ?_
          refine ex_callQ (ct_W_become57_1 (L := L) hb01 hze hzp hzk) (by decide) rfl ⟨rfl, rfl, rfl⟩ ⟨Nat.le_of_ble_eq_true rfl, rfl, rfl⟩ (Nat.le_of_ble_eq_true rfl) rfl (fun ra m2 hQ => ?_)
          obtain ⟨rfl, J0, rfl, hWB⟩ := hQ
          have hJ0 : ∀ k j, ¬ (57 ≤ k ∧ k ≤ 84) → J0 k j = I k j := hWB.2.2.2.2.2.2.2.2
          have hSW0b := WB57.sw hWB hSW0
          have hXt0 := hXt.fr (I' := J0) (fun k j a b => hJ0 k j (by omega))
          have hI57 : J0 57 7 = I 143 13 := by rw [hWB.2.1.2.2.2.2]; exact hI17
          have hn57 : J0 57 4 = (n : Int) := by rw [hWB.2.1.2.1]; exact hn1
          have hag57 : ∀ k, k < n → J0 60 k = (ag k : Int) ∧ ag k < 5 := fun k hk => by rw [hWB.2.2.2.1 k (by omega)]; exact hag1 k hk
          refine ex_st 2 (pc' := 45) (ls' := [(3, xi 0), (0, xr 0), (1, xi (↑u)), (2, xi 10)]) (st' := []) rfl ?_
          refine lp_Gon (L := L) (w1 := 10) (u := u) (by omega) 0 (Nat.zero_le _) s0 J0 hSW0b hSI0 (by omega) hXt0 hI57 hn57 hn5 hag57 (fun J hSJ hJ1 => ?_)
          rw [show u - 0 = u from rfl] at hSJ
          have hJ : ∀ k j, ¬ ((57 ≤ k ∧ k ≤ 84) ∨ (92 ≤ k ∧ k ≤ 103)) → J k j = I k j := fun k j hk => by rw [hJ1 _ _ (by unfold GFW; omega), hJ0 _ _ (by omega)]
          have hJ5 : J 57 5 = (sp_it (sp_D kd vv vo ba ro cd we en cc qv c n ag) u s0).2.1 := hSJ.1.2.2.1
          have hPb1 : J 143 1 = I 143 1 := hJ _ _ (by omega)
          have hPb3 : J 143 3 = I 143 3 := hJ _ _ (by omega)
          have hPb4 : J 143 4 = I 143 4 := hJ _ _ (by omega)
          have hPbd : ∀ x, x < 5 → J 149 x = I 149 x := fun x hx => hJ _ _ (by omega)
          have hJd : J 59 0 = (sp_it (sp_D kd vv vo ba ro cd we en cc qv c n ag) u s0).2.2.2 0 := hSJ.2 0 (by decide)
          refine ex_st 1 (pc' := 65) (ls' := [(3, xi (↑u)), (0, xr 0), (1, xi (↑u)), (2, xi 10)]) (st' := [xi 10]) rfl ?_
          refine ex_st 1 (pc' := 76) (ls' := [(3, xi (↑u)), (0, xr 0), (1, xi (↑u)), (2, xi 10)]) (st' := []) rfl ?_
          refine ex_st 2 (pc' := 78) (ls' := [(3, xi (↑u)), (0, xr 0), (1, xi (↑u)), (2, xi 10)]) (st' := [xi 1, xi 10]) rfl ?_
          refine ex_st 1 (pc' := 92) (ls' := [(3, xi (↑u)), (0, xr 0), (1, xi (↑u)), (2, xi 10)]) (st' := []) rfl ?_
          refine ex_st 6 (pc' := 103) (ls' := [(3, xi (↑u)), (0, xr 0), (1, xi (↑u)), (2, xi 10)]) (st' := [xi 0, xr 59]) rfl ?_
          refine ex_iald (j := 0) rfl (by decide) (rfl : xSH[59]? = some _) (by decide) (by decide) (by decide) ?_
          rw [hJd]
          refine ex_reti rfl rfl ?_
          refine x_CQ.of (M := xM_m_on) rfl (Nat.le_of_ble_eq_true rfl) ?_
          refine ex_st 4 (pc' := 4) (ls' := [(0, xr 143), (1, xi (↑u)), (2, xi 10)]) (st' := [xi 1, xi 0, xi 10, xr 143]) rfl ?_
          refine ex_call (ct_m_in (by first | omega | (constructor <;> omega) | assumption) (by first | omega | (constructor <;> omega) | assumption) (by first | omega | (constructor <;> omega) | assumption)) (by decide) rfl ⟨rfl, rfl, rfl⟩ ⟨Nat.le_of_ble_eq_true rfl, rfl, rfl⟩ (Nat.le_of_ble_eq_true rfl) rfl ?_
          refine ex_bne rfl (fun h4 => ?_) (fun h4 => ?_)
          · exfalso; omega
          · refine ex_st 4 (pc' := 16) (ls' := [(0, xr 143), (1, xi (↑u)), (2, xi 10)]) (st' := [xi 14, xi 10, xi 10, xr 143]) rfl ?_
            refine ex_call (ct_m_in (by first | omega | (constructor <;> omega) | assumption) (by first | omega | (constructor <;> omega) | assumption) (by first | omega | (constructor <;> omega) | assumption)) (by decide) rfl ⟨rfl, rfl, rfl⟩ ⟨Nat.le_of_ble_eq_true rfl, rfl, rfl⟩ (Nat.le_of_ble_eq_true rfl) rfl ?_
            refine ex_bne rfl (fun h5 => ?_) (fun h5 => ?_)
            · refine ex_st 2 (pc' := 26) (ls' := [(0, xr 143), (1, xi (↑u)), (2, xi 10)]) (st' := [xi (↑u), xr 143]) rfl ?_
              refine ex_call (ct_m_isSessions (by first | omega | (constructor <;> omega) | assumption)) (by decide) rfl ⟨rfl, rfl, rfl⟩ ⟨Nat.le_of_ble_eq_true rfl, rfl, rfl⟩ (Nat.le_of_ble_eq_true rfl) rfl ?_
              refine ex_bne rfl (fun h6 => ?_) (fun h6 => ?_)
              · refine ex_st 1 (pc' := 36) (ls' := [(0, xr 143), (1, xi (↑u)), (2, xi 10)]) (st' := [xr 143]) rfl ?_
                refine ex_callQ (ct_m_save (L := L)) (by decide) rfl ⟨rfl, rfl, rfl⟩ ⟨Nat.le_of_ble_eq_true rfl, rfl, rfl⟩ (Nat.le_of_ble_eq_true rfl) rfl (fun ra m2 hQ => ?_)
                obtain ⟨rfl, K1, rfl, k32, k33, k34, k35, k163, hK1⟩ := hQ
                have hK1I : ∀ k j, ¬ ((57 ≤ k ∧ k ≤ 84) ∨ (92 ≤ k ∧ k ≤ 103) ∨ (k = 143 ∧ (j = 32 ∨ j = 33 ∨ j = 34 ∨ j = 35)) ∨ (k = 163 ∧ j < 5)) → K1 k j = I k j := fun k j hk => by rw [hK1 _ _ (by omega), hJ _ _ (by omega)]
                have hSMK : SM K1 c kd vv vo ba ro s0 := ⟨hSM0.1.set (fun k j a b => hK1I k j (by omega)) (hK1I _ _ (by omega)) (hK1I _ _ (by omega)) ⟨by rw [hK1I _ _ (by omega)]; exact hSM0.1.2.2.1, hSM0.1.2.2.2.1⟩ ⟨by rw [hK1I _ _ (by omega)]; exact hSM0.1.2.2.2.2.1, hSM0.1.2.2.2.2.2.1⟩, fun x hx => by rw [hK1I _ _ (by omega)]; exact hSM0.2 x hx⟩
                have hTK := hMT.fr3 (I' := K1) (hK1I _ _ (by omega)) (fun k j a b => hK1I k j (by omega))
                have hnK : K1 143 2 = (n : Int) := by rw [hK1I _ _ (by omega)]; exact hn
                have hagK : ∀ k, k < n → K1 150 k = (ag k : Int) ∧ ag k < 5 := fun k hk => by rw [hK1I _ _ (by omega)]; exact hag k hk
                refine ex_st 2 (pc' := 41) (ls' := [(0, xr 143), (1, xi (↑u)), (2, xi 10)]) (st' := [xi (↑u), xr 143]) rfl ?_
                refine ex_callQ (ct_m_goSessions (L := L) hSMK hSI0 (u := u) (by omega) (by omega) hTK hnK hn5 hagK (md := 2000000000) k32 (by decide) (by omega)) (by decide) rfl ⟨rfl, rfl, rfl⟩ ⟨Nat.le_of_ble_eq_true rfl, rfl, rfl⟩ (Nat.le_of_ble_eq_true rfl) rfl (fun ra m2 hQ => ?_)
                obtain ⟨rfl, K2, rfl, hSK, hK2⟩ := hQ
                have hK2g : ∀ k j, ¬ ((160 ≤ k ∧ k ≤ 162) ∨ (k = 143 ∧ (j = 3 ∨ j = 4)) ∨ (k = 149 ∧ j < 5)) → K2 k j = K1 k j := fun k j hk => hK2 k j (by unfold GFM; omega)
                have hK5 : K2 143 3 = (sp_it (sp_D kd vv vo ba ro cd we en cc qv c n ag) u s0).2.1 := hSK.1.2.2.1
                have hKd : K2 149 0 = (sp_it (sp_D kd vv vo ba ro cd we en cc qv c n ag) u s0).2.2.2 0 := hSK.2 0 (by decide)
                refine ex_st 1 (pc' := 45) (ls' := [(0, xr 143), (1, xi (↑u)), (2, xi 10)]) (st' := [xi 10]) rfl ?_
                refine ex_st 1 (pc' := 55) (ls' := [(0, xr 143), (1, xi (↑u)), (2, xi 10)]) (st' := []) rfl ?_
                refine ex_st 2 (pc' := 57) (ls' := [(0, xr 143), (1, xi (↑u)), (2, xi 10)]) (st' := [xi 1, xi 10]) rfl ?_
                refine ex_st 1 (pc' := 67) (ls' := [(0, xr 143), (1, xi (↑u)), (2, xi 10)]) (st' := []) rfl ?_
                refine ex_st 5 (pc' := 75) (ls' := [(0, xr 143), (1, xi (↑u)), (2, xi 10)]) (st' := [xi 0, xr 149]) rfl ?_
                refine ex_iald (j := 0) rfl (by decide) (rfl : xSH[149]? = some _) (by decide) (by decide) (by decide) ?_
                rw [hKd]
                refine ex_st 2 (pc' := 78) (ls' := [(3, xi ((sp_it (sp_D kd vv vo ba ro cd we en cc qv c n ag) u s0).2.2.2 0)), (0, xr 143), (1, xi (↑u)), (2, xi 10)]) (st' := [xr 143]) rfl ?_
                refine ex_callQ (ct_m_putBack (L := L)) (by decide) rfl ⟨rfl, rfl, rfl⟩ ⟨Nat.le_of_ble_eq_true rfl, rfl, rfl⟩ (Nat.le_of_ble_eq_true rfl) rfl (fun ra m2 hQ => ?_)
                obtain ⟨rfl, K3, rfl, b32, b1, b3, b4, bd, hK3⟩ := hQ
                have hRl : Rl K3 L := hR.back (fun k j hk => by unfold x_scr at hk; rw [hK3 _ _ (by omega), hK2g _ _ (by omega), hK1I _ _ (by omega)]) b32 (by rw [b1, hK2g _ _ (by omega), k33, hPb1]) (by rw [b3, hK2g _ _ (by omega), k34, hPb3]) (by rw [b4, hK2g _ _ (by omega), k35, hPb4]) (fun x hx => by rw [bd x hx, hK2g _ _ (by omega), k163 x hx, hPbd x hx])
                refine ex_st 1 (pc' := 82) (ls' := [(3, xi ((sp_it (sp_D kd vv vo ba ro cd we en cc qv c n ag) u s0).2.2.2 0)), (0, xr 143), (1, xi (↑u)), (2, xi 10)]) (st' := [xi ((sp_it (sp_D kd vv vo ba ro cd we en cc qv c n ag) u s0).2.2.2 0)]) rfl ?_
                refine ex_reti rfl rfl ?_
                exact ⟨rfl, K3, _, rfl, hRl⟩
              · exfalso; omega
            · exfalso; omega
        · exfalso; omega
    · exfalso; omega
set_option maxRecDepth 8000 in
set_option maxHeartbeats 2000000 in
theorem op_on_11 {sc : List Int} {I : Nat → Nat → Int} {L : Nat → Nat → Int64} (hR : Rl I L) {u : Nat} (hu : u ≤ 60) : x_PQ sc xN_G_on [xr 0, xi (↑u), xi 11] xN_m_on [xr 143, xi (↑u), xi 11] (xSH, I, L) := by
  obtain ⟨⟨hNs, hNo, hNa, hNb, hNr, hNd, hNg, hNe, hNp, hNk⟩, hI, hT, hX, hC, hH, hQ⟩ := id hR
  have hs := hNs
  unfold RNs at hs
  obtain ⟨c, kd, vv, vo, aw, ba, ro, egg, se, hWW, hM⟩ := hR.vw
  have hT2 := hT
  unfold RT at hT2
  obtain ⟨T, nn, cc, cd, we, en, qv, hXt⟩ := RT.tr hT (t := I 143 13) (by omega) (by omega)
  have hX2 := id hXt
  obtain ⟨u1, u2, u3, u4, u5, u6, u7, u8, u9, u10⟩ := hX2
  have hMT := u10 rfl
  obtain ⟨g, hg1, hg, hgs, hgp⟩ := hM.pres
  have hI17 : I 1 7 = I 143 13 := by omega
  have hs64 := sp_mask64 (sp_nz aw) (n := c) (by have := hWW.2.1; omega)
  have hsN : sp_mask (sp_nz aw) c = (((sp_mask (sp_nz aw) c).toNat : Nat) : Int) := by have := (sp_mask_bd (sp_nz aw) c).1; omega
  obtain ⟨hg_1, hg_2, hg_3, hg_4, hg_5, hg_6⟩ := id hNg
  obtain ⟨n, hn⟩ := Int.eq_ofNat_of_zero_le hg_2
  obtain ⟨ag, hag0⟩ : ∃ ag : Nat → Nat, ∀ k, ag k = (I 150 k).toNat := ⟨_, fun _ => rfl⟩
  have hag : ∀ k, k < n → I 150 k = (ag k : Int) ∧ ag k < 5 := fun k hk => by have h1 := hg_5 k (by omega); have h2 := hag0 k; omega
  have hvo : ∀ p, p < c → 0 ≤ vo p ∧ vo p ≤ 9 := fun p hp => (hM.2.2.2.2.2.2.2 p hp).2.2.2.2.2.1
  obtain ⟨s0, hs0⟩ : ∃ s0 : St4, s0 = (aw, egg, se, fun x => I 149 x) := ⟨_, rfl⟩
  have hSW0 : SW I 1 c kd vv vo ba ro s0 := by subst hs0; exact ⟨hWW, fun x hx => (hNd x hx).1⟩
  have hSM0 : SM I c kd vv vo ba ro s0 := by subst hs0; exact ⟨hM, fun x hx => rfl⟩
  have hegg := hM.2.2.1
  have hse0 := hM.2.2.2.2.1
  have hSI0 : SI s0 := by subst hs0; exact ⟨fun x hx => by have := hNd x hx; show 0 ≤ I 149 x ∧ I 149 x ≤ (se : Int); omega, by show 0 ≤ egg; omega, by show egg ≤ 9; omega⟩
  have hs0e : s0.2.2.1 = se := by subst hs0; rfl
  have hn5 : n ≤ 5 := by omega
  have hag1 : ∀ k, k < n → I 4 k = (ag k : Int) ∧ ag k < 5 := fun k hk => by rw [hg_4 k (by omega)]; exact hag k hk
  have hn1 : I 1 4 = (n : Int) := by omega
  have hb01 : ∀ p, p < 6 → I (11 + 3 * p) 3 = 0 ∨ I (11 + 3 * p) 3 = 1 := fun p hp => by rw [hNa.1 p hp]; exact x_b01 _
  have hze : 0 ≤ I 5 2 ∧ I 5 2 ≤ 5 := by have h1 := hNe.1; have h2 := hNe.2.1; have h3 := hNe.2.2.1; omega
  have hzp : 0 ≤ I 7 2 ∧ I 7 2 ≤ 10 := by have h1 := hNp.1; have h2 := hNp.2.1; have h3 := hNp.2.2.1; omega
  have hzk : 0 ≤ I 9 2 ∧ I 9 2 ≤ 8 := by have h1 := hNk.1; have h2 := hNk.2.1; have h3 := hNk.2.2.1; omega
  refine x_CQ.of (M := xM_G_on) rfl (Nat.le_of_ble_eq_true rfl) ?_
  refine ex_st 1 (pc' := 1) (ls' := [(0, xr 0), (1, xi (↑u)), (2, xi 11)]) (st' := [xi 11]) rfl ?_
  refine ex_call (ct_G_isZeroOrOne (by first | omega | (constructor <;> omega) | assumption)) (by decide) rfl ⟨rfl, rfl, rfl⟩ ⟨Nat.le_of_ble_eq_true rfl, rfl, rfl⟩ (Nat.le_of_ble_eq_true rfl) rfl ?_
  refine ex_bne rfl (fun h0 => ?_) (fun h0 => ?_)
  · exfalso; omega
  · refine ex_st 3 (pc' := 11) (ls' := [(0, xr 0), (1, xi (↑u)), (2, xi 11)]) (st' := [xi 1]) rfl ?_
    refine ex_call (ct_G_isThing2 (by omega)) (by decide) rfl ⟨rfl, rfl, rfl⟩ ⟨Nat.le_of_ble_eq_true rfl, rfl, rfl⟩ (Nat.le_of_ble_eq_true rfl) rfl ?_
    refine ex_bne rfl (fun h1 => ?_) (fun h1 => ?_)
    · refine ex_st 1 (pc' := 20) (ls' := [(0, xr 0), (1, xi (↑u)), (2, xi 11)]) (st' := [xi (↑u)]) rfl ?_
      refine ex_if rfl (by first | omega | (constructor <;> omega) | assumption) (fun (h2 : (↑u : Int) < 0) => ?_) (fun (h2 : ¬ (↑u : Int) < 0) => ?_)
      · exfalso; omega
      · refine ex_st 2 (pc' := 26) (ls' := [(0, xr 0), (1, xi (↑u)), (2, xi 11)]) (st' := [xi 60, xi (↑u)]) rfl ?_
        refine ex_ic rfl (by first | omega | (constructor <;> omega) | assumption) (by decide) (fun (h3 : (↑u : Int) ≤ 60) => ?_) (fun (h3 : ¬ (↑u : Int) ≤ 60) => ?_)
        · refine ex_st 4 (pc' := 40) (ls' := [(0, xr 0), (1, xi (↑u)), (2, xi 11)]) (st' := [xr 1, xr 57]) rfl ?_
          refine ex_callQ (ct_W_become57_1 (L := L) hb01 hze hzp hzk) (by decide) rfl ⟨rfl, rfl, rfl⟩ ⟨Nat.le_of_ble_eq_true rfl, rfl, rfl⟩ (Nat.le_of_ble_eq_true rfl) rfl (fun ra m2 hQ => ?_)
          obtain ⟨rfl, J0, rfl, hWB⟩ := hQ
          have hJ0 : ∀ k j, ¬ (57 ≤ k ∧ k ≤ 84) → J0 k j = I k j := hWB.2.2.2.2.2.2.2.2
          have hSW0b := WB57.sw hWB hSW0
          have hXt0 := hXt.fr (I' := J0) (fun k j a b => hJ0 k j (by omega))
          have hI57 : J0 57 7 = I 143 13 := by rw [hWB.2.1.2.2.2.2]; exact hI17
          have hn57 : J0 57 4 = (n : Int) := by rw [hWB.2.1.2.1]; exact hn1
          have hag57 : ∀ k, k < n → J0 60 k = (ag k : Int) ∧ ag k < 5 := fun k hk => by rw [hWB.2.2.2.1 k (by omega)]; exact hag1 k hk
          refine ex_st 2 (pc' := 45) (ls' := [(3, xi 0), (0, xr 0), (1, xi (↑u)), (2, xi 11)]) (st' := []) rfl ?_
          refine lp_Gon (L := L) (w1 := 11) (u := u) (by omega) 0 (Nat.zero_le _) s0 J0 hSW0b hSI0 (by omega) hXt0 hI57 hn57 hn5 hag57 (fun J hSJ hJ1 => ?_)
          rw [show u - 0 = u from rfl] at hSJ
          have hJ : ∀ k j, ¬ ((57 ≤ k ∧ k ≤ 84) ∨ (92 ≤ k ∧ k ≤ 103)) → J k j = I k j := fun k j hk => by rw [hJ1 _ _ (by unfold GFW; omega), hJ0 _ _ (by omega)]
          have hJ5 : J 57 5 = (sp_it (sp_D kd vv vo ba ro cd we en cc qv c n ag) u s0).2.1 := hSJ.1.2.2.1
          have hPb1 : J 143 1 = I 143 1 := hJ _ _ (by omega)
          have hPb3 : J 143 3 = I 143 3 := hJ _ _ (by omega)
          have hPb4 : J 143 4 = I 143 4 := hJ _ _ (by omega)
          have hPbd : ∀ x, x < 5 → J 149 x = I 149 x := fun x hx => hJ _ _ (by omega)
          have hJd : J 59 1 = (sp_it (sp_D kd vv vo ba ro cd we en cc qv c n ag) u s0).2.2.2 1 := hSJ.2 1 (by decide)
          refine ex_st 1 (pc' := 65) (ls' := [(3, xi (↑u)), (0, xr 0), (1, xi (↑u)), (2, xi 11)]) (st' := [xi 11]) rfl ?_
          refine ex_st 1 (pc' := 76) (ls' := [(3, xi (↑u)), (0, xr 0), (1, xi (↑u)), (2, xi 11)]) (st' := []) rfl ?_
          refine ex_st 2 (pc' := 78) (ls' := [(3, xi (↑u)), (0, xr 0), (1, xi (↑u)), (2, xi 11)]) (st' := [xi 1, xi 11]) rfl ?_
          refine ex_st 1 (pc' := 92) (ls' := [(3, xi (↑u)), (0, xr 0), (1, xi (↑u)), (2, xi 11)]) (st' := []) rfl ?_
          refine ex_st 6 (pc' := 103) (ls' := [(3, xi (↑u)), (0, xr 0), (1, xi (↑u)), (2, xi 11)]) (st' := [xi 1, xr 59]) rfl ?_
          refine ex_iald (j := 1) rfl (by decide) (rfl : xSH[59]? = some _) (by decide) (by decide) (by decide) ?_
          rw [hJd]
          refine ex_reti rfl rfl ?_
          refine x_CQ.of (M := xM_m_on) rfl (Nat.le_of_ble_eq_true rfl) ?_
          refine ex_st 4 (pc' := 4) (ls' := [(0, xr 143), (1, xi (↑u)), (2, xi 11)]) (st' := [xi 1, xi 0, xi 11, xr 143]) rfl ?_
          refine ex_call (ct_m_in (by first | omega | (constructor <;> omega) | assumption) (by first | omega | (constructor <;> omega) | assumption) (by first | omega | (constructor <;> omega) | assumption)) (by decide) rfl ⟨rfl, rfl, rfl⟩ ⟨Nat.le_of_ble_eq_true rfl, rfl, rfl⟩ (Nat.le_of_ble_eq_true rfl) rfl ?_
          refine ex_bne rfl (fun h4 => ?_) (fun h4 => ?_)
          · exfalso; omega
          · refine ex_st 4 (pc' := 16) (ls' := [(0, xr 143), (1, xi (↑u)), (2, xi 11)]) (st' := [xi 14, xi 10, xi 11, xr 143]) rfl ?_
            refine ex_call (ct_m_in (by first | omega | (constructor <;> omega) | assumption) (by first | omega | (constructor <;> omega) | assumption) (by first | omega | (constructor <;> omega) | assumption)) (by decide) rfl ⟨rfl, rfl, rfl⟩ ⟨Nat.le_of_ble_eq_true rfl, rfl, rfl⟩ (Nat.le_of_ble_eq_true rfl) rfl ?_
            refine ex_bne rfl (fun h5 => ?_) (fun h5 => ?_)
            · refine ex_st 2 (pc' := 26) (ls' := [(0, xr 143), (1, xi (↑u)), (2, xi 11)]) (st' := [xi (↑u), xr 143]) rfl ?_
              refine ex_call (ct_m_isSessions (by first | omega | (constructor <;> omega) | assumption)) (by decide) rfl ⟨rfl, rfl, rfl⟩ ⟨Nat.le_of_ble_eq_true rfl, rfl, rfl⟩ (Nat.le_of_ble_eq_true rfl) rfl ?_
              refine ex_bne rfl (fun h6 => ?_) (fun h6 => ?_)
              · refine ex_st 1 (pc' := 36) (ls' := [(0, xr 143), (1, xi (↑u)), (2, xi 11)]) (st' := [xr 143]) rfl ?_
                refine ex_callQ (ct_m_save (L := L)) (by decide) rfl ⟨rfl, rfl, rfl⟩ ⟨Nat.le_of_ble_eq_true rfl, rfl, rfl⟩ (Nat.le_of_ble_eq_true rfl) rfl (fun ra m2 hQ => ?_)
                obtain ⟨rfl, K1, rfl, k32, k33, k34, k35, k163, hK1⟩ := hQ
                have hK1I : ∀ k j, ¬ ((57 ≤ k ∧ k ≤ 84) ∨ (92 ≤ k ∧ k ≤ 103) ∨ (k = 143 ∧ (j = 32 ∨ j = 33 ∨ j = 34 ∨ j = 35)) ∨ (k = 163 ∧ j < 5)) → K1 k j = I k j := fun k j hk => by rw [hK1 _ _ (by omega), hJ _ _ (by omega)]
                have hSMK : SM K1 c kd vv vo ba ro s0 := ⟨hSM0.1.set (fun k j a b => hK1I k j (by omega)) (hK1I _ _ (by omega)) (hK1I _ _ (by omega)) ⟨by rw [hK1I _ _ (by omega)]; exact hSM0.1.2.2.1, hSM0.1.2.2.2.1⟩ ⟨by rw [hK1I _ _ (by omega)]; exact hSM0.1.2.2.2.2.1, hSM0.1.2.2.2.2.2.1⟩, fun x hx => by rw [hK1I _ _ (by omega)]; exact hSM0.2 x hx⟩
                have hTK := hMT.fr3 (I' := K1) (hK1I _ _ (by omega)) (fun k j a b => hK1I k j (by omega))
                have hnK : K1 143 2 = (n : Int) := by rw [hK1I _ _ (by omega)]; exact hn
                have hagK : ∀ k, k < n → K1 150 k = (ag k : Int) ∧ ag k < 5 := fun k hk => by rw [hK1I _ _ (by omega)]; exact hag k hk
                refine ex_st 2 (pc' := 41) (ls' := [(0, xr 143), (1, xi (↑u)), (2, xi 11)]) (st' := [xi (↑u), xr 143]) rfl ?_
                refine ex_callQ (ct_m_goSessions (L := L) hSMK hSI0 (u := u) (by omega) (by omega) hTK hnK hn5 hagK (md := 2000000000) k32 (by decide) (by omega)) (by decide) rfl ⟨rfl, rfl, rfl⟩ ⟨Nat.le_of_ble_eq_true rfl, rfl, rfl⟩ (Nat.le_of_ble_eq_true rfl) rfl (fun ra m2 hQ => ?_)
                obtain ⟨rfl, K2, rfl, hSK, hK2⟩ := hQ
                have hK2g : ∀ k j, ¬ ((160 ≤ k ∧ k ≤ 162) ∨ (k = 143 ∧ (j = 3 ∨ j = 4)) ∨ (k = 149 ∧ j < 5)) → K2 k j = K1 k j := fun k j hk => hK2 k j (by unfold GFM; omega)
                have hK5 : K2 143 3 = (sp_it (sp_D kd vv vo ba ro cd we en cc qv c n ag) u s0).2.1 := hSK.1.2.2.1
                have hKd : K2 149 1 = (sp_it (sp_D kd vv vo ba ro cd we en cc qv c n ag) u s0).2.2.2 1 := hSK.2 1 (by decide)
                refine ex_st 1 (pc' := 45) (ls' := [(0, xr 143), (1, xi (↑u)), (2, xi 11)]) (st' := [xi 11]) rfl ?_
                refine ex_st 1 (pc' := 55) (ls' := [(0, xr 143), (1, xi (↑u)), (2, xi 11)]) (st' := []) rfl ?_
                refine ex_st 2 (pc' := 57) (ls' := [(0, xr 143), (1, xi (↑u)), (2, xi 11)]) (st' := [xi 1, xi 11]) rfl ?_
                refine ex_st 1 (pc' := 67) (ls' := [(0, xr 143), (1, xi (↑u)), (2, xi 11)]) (st' := []) rfl ?_
                refine ex_st 5 (pc' := 75) (ls' := [(0, xr 143), (1, xi (↑u)), (2, xi 11)]) (st' := [xi 1, xr 149]) rfl ?_
                refine ex_iald (j := 1) rfl (by decide) (rfl : xSH[149]? = some _) (by decide) (by decide) (by decide) ?_
                rw [hKd]
                refine ex_st 2 (pc' := 78) (ls' := [(3, xi ((sp_it (sp_D kd vv vo ba ro cd we en cc qv c n ag) u s0).2.2.2 1)), (0, xr 143), (1, xi (↑u)), (2, xi 11)]) (st' := [xr 143]) rfl ?_
                refine ex_callQ (ct_m_putBack (L := L)) (by decide) rfl ⟨rfl, rfl, rfl⟩ ⟨Nat.le_of_ble_eq_true rfl, rfl, rfl⟩ (Nat.le_of_ble_eq_true rfl) rfl (fun ra m2 hQ => ?_)
                obtain ⟨rfl, K3, rfl, b32, b1, b3, b4, bd, hK3⟩ := hQ
                have hRl : Rl K3 L := hR.back (fun k j hk => by unfold x_scr at hk; rw [hK3 _ _ (by omega), hK2g _ _ (by omega), hK1I _ _ (by omega)]) b32 (by rw [b1, hK2g _ _ (by omega), k33, hPb1]) (by rw [b3, hK2g _ _ (by omega), k34, hPb3]) (by rw [b4, hK2g _ _ (by omega), k35, hPb4]) (fun x hx => by rw [bd x hx, hK2g _ _ (by omega), k163 x hx, hPbd x hx])
                refine ex_st 1 (pc' := 82) (ls' := [(3, xi ((sp_it (sp_D kd vv vo ba ro cd we en cc qv c n ag) u s0).2.2.2 1)), (0, xr 143), (1, xi (↑u)), (2, xi 11)]) (st' := [xi ((sp_it (sp_D kd vv vo ba ro cd we en cc qv c n ag) u s0).2.2.2 1)]) rfl ?_
                refine ex_reti rfl rfl ?_
                exact ⟨rfl, K3, _, rfl, hRl⟩
              · exfalso; omega
            · exfalso; omega
        · exfalso; omega
    · exfalso; omega
set_option maxRecDepth 8000 in
set_option maxHeartbeats 2000000 in
theorem op_on_12 {sc : List Int} {I : Nat → Nat → Int} {L : Nat → Nat → Int64} (hR : Rl I L) {u : Nat} (hu : u ≤ 60) : x_PQ sc xN_G_on [xr 0, xi (↑u), xi 12] xN_m_on [xr 143, xi (↑u), xi 12] (xSH, I, L) := by
  obtain ⟨⟨hNs, hNo, hNa, hNb, hNr, hNd, hNg, hNe, hNp, hNk⟩, hI, hT, hX, hC, hH, hQ⟩ := id hR
  have hs := hNs
  unfold RNs at hs
  obtain ⟨c, kd, vv, vo, aw, ba, ro, egg, se, hWW, hM⟩ := hR.vw
  have hT2 := hT
  unfold RT at hT2
  obtain ⟨T, nn, cc, cd, we, en, qv, hXt⟩ := RT.tr hT (t := I 143 13) (by omega) (by omega)
  have hX2 := id hXt
  obtain ⟨u1, u2, u3, u4, u5, u6, u7, u8, u9, u10⟩ := hX2
  have hMT := u10 rfl
  obtain ⟨g, hg1, hg, hgs, hgp⟩ := hM.pres
  have hI17 : I 1 7 = I 143 13 := by omega
  have hs64 := sp_mask64 (sp_nz aw) (n := c) (by have := hWW.2.1; omega)
  have hsN : sp_mask (sp_nz aw) c = (((sp_mask (sp_nz aw) c).toNat : Nat) : Int) := by have := (sp_mask_bd (sp_nz aw) c).1; omega
  obtain ⟨hg_1, hg_2, hg_3, hg_4, hg_5, hg_6⟩ := id hNg
  obtain ⟨n, hn⟩ := Int.eq_ofNat_of_zero_le hg_2
  obtain ⟨ag, hag0⟩ : ∃ ag : Nat → Nat, ∀ k, ag k = (I 150 k).toNat := ⟨_, fun _ => rfl⟩
  have hag : ∀ k, k < n → I 150 k = (ag k : Int) ∧ ag k < 5 := fun k hk => by have h1 := hg_5 k (by omega); have h2 := hag0 k; omega
  have hvo : ∀ p, p < c → 0 ≤ vo p ∧ vo p ≤ 9 := fun p hp => (hM.2.2.2.2.2.2.2 p hp).2.2.2.2.2.1
  obtain ⟨s0, hs0⟩ : ∃ s0 : St4, s0 = (aw, egg, se, fun x => I 149 x) := ⟨_, rfl⟩
  have hSW0 : SW I 1 c kd vv vo ba ro s0 := by subst hs0; exact ⟨hWW, fun x hx => (hNd x hx).1⟩
  have hSM0 : SM I c kd vv vo ba ro s0 := by subst hs0; exact ⟨hM, fun x hx => rfl⟩
  have hegg := hM.2.2.1
  have hse0 := hM.2.2.2.2.1
  have hSI0 : SI s0 := by subst hs0; exact ⟨fun x hx => by have := hNd x hx; show 0 ≤ I 149 x ∧ I 149 x ≤ (se : Int); omega, by show 0 ≤ egg; omega, by show egg ≤ 9; omega⟩
  have hs0e : s0.2.2.1 = se := by subst hs0; rfl
  have hn5 : n ≤ 5 := by omega
  have hag1 : ∀ k, k < n → I 4 k = (ag k : Int) ∧ ag k < 5 := fun k hk => by rw [hg_4 k (by omega)]; exact hag k hk
  have hn1 : I 1 4 = (n : Int) := by omega
  have hb01 : ∀ p, p < 6 → I (11 + 3 * p) 3 = 0 ∨ I (11 + 3 * p) 3 = 1 := fun p hp => by rw [hNa.1 p hp]; exact x_b01 _
  have hze : 0 ≤ I 5 2 ∧ I 5 2 ≤ 5 := by have h1 := hNe.1; have h2 := hNe.2.1; have h3 := hNe.2.2.1; omega
  have hzp : 0 ≤ I 7 2 ∧ I 7 2 ≤ 10 := by have h1 := hNp.1; have h2 := hNp.2.1; have h3 := hNp.2.2.1; omega
  have hzk : 0 ≤ I 9 2 ∧ I 9 2 ≤ 8 := by have h1 := hNk.1; have h2 := hNk.2.1; have h3 := hNk.2.2.1; omega
  refine x_CQ.of (M := xM_G_on) rfl (Nat.le_of_ble_eq_true rfl) ?_
  refine ex_st 1 (pc' := 1) (ls' := [(0, xr 0), (1, xi (↑u)), (2, xi 12)]) (st' := [xi 12]) rfl ?_
  refine ex_call (ct_G_isZeroOrOne (by first | omega | (constructor <;> omega) | assumption)) (by decide) rfl ⟨rfl, rfl, rfl⟩ ⟨Nat.le_of_ble_eq_true rfl, rfl, rfl⟩ (Nat.le_of_ble_eq_true rfl) rfl ?_
  refine ex_bne rfl (fun h0 => ?_) (fun h0 => ?_)
  · exfalso; omega
  · refine ex_st 3 (pc' := 11) (ls' := [(0, xr 0), (1, xi (↑u)), (2, xi 12)]) (st' := [xi 2]) rfl ?_
    refine ex_call (ct_G_isThing2 (by omega)) (by decide) rfl ⟨rfl, rfl, rfl⟩ ⟨Nat.le_of_ble_eq_true rfl, rfl, rfl⟩ (Nat.le_of_ble_eq_true rfl) rfl ?_
    refine ex_bne rfl (fun h1 => ?_) (fun h1 => ?_)
    · refine ex_st 1 (pc' := 20) (ls' := [(0, xr 0), (1, xi (↑u)), (2, xi 12)]) (st' := [xi (↑u)]) rfl ?_
      refine ex_if rfl (by first | omega | (constructor <;> omega) | assumption) (fun (h2 : (↑u : Int) < 0) => ?_) (fun (h2 : ¬ (↑u : Int) < 0) => ?_)
      · exfalso; omega
      · refine ex_st 2 (pc' := 26) (ls' := [(0, xr 0), (1, xi (↑u)), (2, xi 12)]) (st' := [xi 60, xi (↑u)]) rfl ?_
        refine ex_ic rfl (by first | omega | (constructor <;> omega) | assumption) (by decide) (fun (h3 : (↑u : Int) ≤ 60) => ?_) (fun (h3 : ¬ (↑u : Int) ≤ 60) => ?_)
        · refine ex_st 4 (pc' := 40) (ls' := [(0, xr 0), (1, xi (↑u)), (2, xi 12)]) (st' := [xr 1, xr 57]) rfl ?_
          refine ex_callQ (ct_W_become57_1 (L := L) hb01 hze hzp hzk) (by decide) rfl ⟨rfl, rfl, rfl⟩ ⟨Nat.le_of_ble_eq_true rfl, rfl, rfl⟩ (Nat.le_of_ble_eq_true rfl) rfl (fun ra m2 hQ => ?_)
          obtain ⟨rfl, J0, rfl, hWB⟩ := hQ
          have hJ0 : ∀ k j, ¬ (57 ≤ k ∧ k ≤ 84) → J0 k j = I k j := hWB.2.2.2.2.2.2.2.2
          have hSW0b := WB57.sw hWB hSW0
          have hXt0 := hXt.fr (I' := J0) (fun k j a b => hJ0 k j (by omega))
          have hI57 : J0 57 7 = I 143 13 := by rw [hWB.2.1.2.2.2.2]; exact hI17
          have hn57 : J0 57 4 = (n : Int) := by rw [hWB.2.1.2.1]; exact hn1
          have hag57 : ∀ k, k < n → J0 60 k = (ag k : Int) ∧ ag k < 5 := fun k hk => by rw [hWB.2.2.2.1 k (by omega)]; exact hag1 k hk
          refine ex_st 2 (pc' := 45) (ls' := [(3, xi 0), (0, xr 0), (1, xi (↑u)), (2, xi 12)]) (st' := []) rfl ?_
          refine lp_Gon (L := L) (w1 := 12) (u := u) (by omega) 0 (Nat.zero_le _) s0 J0 hSW0b hSI0 (by omega) hXt0 hI57 hn57 hn5 hag57 (fun J hSJ hJ1 => ?_)
          rw [show u - 0 = u from rfl] at hSJ
          have hJ : ∀ k j, ¬ ((57 ≤ k ∧ k ≤ 84) ∨ (92 ≤ k ∧ k ≤ 103)) → J k j = I k j := fun k j hk => by rw [hJ1 _ _ (by unfold GFW; omega), hJ0 _ _ (by omega)]
          have hJ5 : J 57 5 = (sp_it (sp_D kd vv vo ba ro cd we en cc qv c n ag) u s0).2.1 := hSJ.1.2.2.1
          have hPb1 : J 143 1 = I 143 1 := hJ _ _ (by omega)
          have hPb3 : J 143 3 = I 143 3 := hJ _ _ (by omega)
          have hPb4 : J 143 4 = I 143 4 := hJ _ _ (by omega)
          have hPbd : ∀ x, x < 5 → J 149 x = I 149 x := fun x hx => hJ _ _ (by omega)
          have hJd : J 59 2 = (sp_it (sp_D kd vv vo ba ro cd we en cc qv c n ag) u s0).2.2.2 2 := hSJ.2 2 (by decide)
          refine ex_st 1 (pc' := 65) (ls' := [(3, xi (↑u)), (0, xr 0), (1, xi (↑u)), (2, xi 12)]) (st' := [xi 12]) rfl ?_
          refine ex_st 1 (pc' := 76) (ls' := [(3, xi (↑u)), (0, xr 0), (1, xi (↑u)), (2, xi 12)]) (st' := []) rfl ?_
          refine ex_st 2 (pc' := 78) (ls' := [(3, xi (↑u)), (0, xr 0), (1, xi (↑u)), (2, xi 12)]) (st' := [xi 1, xi 12]) rfl ?_
          refine ex_st 1 (pc' := 92) (ls' := [(3, xi (↑u)), (0, xr 0), (1, xi (↑u)), (2, xi 12)]) (st' := []) rfl ?_
          refine ex_st 6 (pc' := 103) (ls' := [(3, xi (↑u)), (0, xr 0), (1, xi (↑u)), (2, xi 12)]) (st' := [xi 2, xr 59]) rfl ?_
          refine ex_iald (j := 2) rfl (by decide) (rfl : xSH[59]? = some _) (by decide) (by decide) (by decide) ?_
          rw [hJd]
          refine ex_reti rfl rfl ?_
          refine x_CQ.of (M := xM_m_on) rfl (Nat.le_of_ble_eq_true rfl) ?_
          refine ex_st 4 (pc' := 4) (ls' := [(0, xr 143), (1, xi (↑u)), (2, xi 12)]) (st' := [xi 1, xi 0, xi 12, xr 143]) rfl ?_
          refine ex_call (ct_m_in (by first | omega | (constructor <;> omega) | assumption) (by first | omega | (constructor <;> omega) | assumption) (by first | omega | (constructor <;> omega) | assumption)) (by decide) rfl ⟨rfl, rfl, rfl⟩ ⟨Nat.le_of_ble_eq_true rfl, rfl, rfl⟩ (Nat.le_of_ble_eq_true rfl) rfl ?_
          refine ex_bne rfl (fun h4 => ?_) (fun h4 => ?_)
          · exfalso; omega
          · refine ex_st 4 (pc' := 16) (ls' := [(0, xr 143), (1, xi (↑u)), (2, xi 12)]) (st' := [xi 14, xi 10, xi 12, xr 143]) rfl ?_
            refine ex_call (ct_m_in (by first | omega | (constructor <;> omega) | assumption) (by first | omega | (constructor <;> omega) | assumption) (by first | omega | (constructor <;> omega) | assumption)) (by decide) rfl ⟨rfl, rfl, rfl⟩ ⟨Nat.le_of_ble_eq_true rfl, rfl, rfl⟩ (Nat.le_of_ble_eq_true rfl) rfl ?_
            refine ex_bne rfl (fun h5 => ?_) (fun h5 => ?_)
            · refine ex_st 2 (pc' := 26) (ls' := [(0, xr 143), (1, xi (↑u)), (2, xi 12)]) (st' := [xi (↑u), xr 143]) rfl ?_
              refine ex_call (ct_m_isSessions (by first | omega | (constructor <;> omega) | assumption)) (by decide) rfl ⟨rfl, rfl, rfl⟩ ⟨Nat.le_of_ble_eq_true rfl, rfl, rfl⟩ (Nat.le_of_ble_eq_true rfl) rfl ?_
              refine ex_bne rfl (fun h6 => ?_) (fun h6 => ?_)
              · refine ex_st 1 (pc' := 36) (ls' := [(0, xr 143), (1, xi (↑u)), (2, xi 12)]) (st' := [xr 143]) rfl ?_
                refine ex_callQ (ct_m_save (L := L)) (by decide) rfl ⟨rfl, rfl, rfl⟩ ⟨Nat.le_of_ble_eq_true rfl, rfl, rfl⟩ (Nat.le_of_ble_eq_true rfl) rfl (fun ra m2 hQ => ?_)
                obtain ⟨rfl, K1, rfl, k32, k33, k34, k35, k163, hK1⟩ := hQ
                have hK1I : ∀ k j, ¬ ((57 ≤ k ∧ k ≤ 84) ∨ (92 ≤ k ∧ k ≤ 103) ∨ (k = 143 ∧ (j = 32 ∨ j = 33 ∨ j = 34 ∨ j = 35)) ∨ (k = 163 ∧ j < 5)) → K1 k j = I k j := fun k j hk => by rw [hK1 _ _ (by omega), hJ _ _ (by omega)]
                have hSMK : SM K1 c kd vv vo ba ro s0 := ⟨hSM0.1.set (fun k j a b => hK1I k j (by omega)) (hK1I _ _ (by omega)) (hK1I _ _ (by omega)) ⟨by rw [hK1I _ _ (by omega)]; exact hSM0.1.2.2.1, hSM0.1.2.2.2.1⟩ ⟨by rw [hK1I _ _ (by omega)]; exact hSM0.1.2.2.2.2.1, hSM0.1.2.2.2.2.2.1⟩, fun x hx => by rw [hK1I _ _ (by omega)]; exact hSM0.2 x hx⟩
                have hTK := hMT.fr3 (I' := K1) (hK1I _ _ (by omega)) (fun k j a b => hK1I k j (by omega))
                have hnK : K1 143 2 = (n : Int) := by rw [hK1I _ _ (by omega)]; exact hn
                have hagK : ∀ k, k < n → K1 150 k = (ag k : Int) ∧ ag k < 5 := fun k hk => by rw [hK1I _ _ (by omega)]; exact hag k hk
                refine ex_st 2 (pc' := 41) (ls' := [(0, xr 143), (1, xi (↑u)), (2, xi 12)]) (st' := [xi (↑u), xr 143]) rfl ?_
                refine ex_callQ (ct_m_goSessions (L := L) hSMK hSI0 (u := u) (by omega) (by omega) hTK hnK hn5 hagK (md := 2000000000) k32 (by decide) (by omega)) (by decide) rfl ⟨rfl, rfl, rfl⟩ ⟨Nat.le_of_ble_eq_true rfl, rfl, rfl⟩ (Nat.le_of_ble_eq_true rfl) rfl (fun ra m2 hQ => ?_)
                obtain ⟨rfl, K2, rfl, hSK, hK2⟩ := hQ
                have hK2g : ∀ k j, ¬ ((160 ≤ k ∧ k ≤ 162) ∨ (k = 143 ∧ (j = 3 ∨ j = 4)) ∨ (k = 149 ∧ j < 5)) → K2 k j = K1 k j := fun k j hk => hK2 k j (by unfold GFM; omega)
                have hK5 : K2 143 3 = (sp_it (sp_D kd vv vo ba ro cd we en cc qv c n ag) u s0).2.1 := hSK.1.2.2.1
                have hKd : K2 149 2 = (sp_it (sp_D kd vv vo ba ro cd we en cc qv c n ag) u s0).2.2.2 2 := hSK.2 2 (by decide)
                refine ex_st 1 (pc' := 45) (ls' := [(0, xr 143), (1, xi (↑u)), (2, xi 12)]) (st' := [xi 12]) rfl ?_
                refine ex_st 1 (pc' := 55) (ls' := [(0, xr 143), (1, xi (↑u)), (2, xi 12)]) (st' := []) rfl ?_
                refine ex_st 2 (pc' := 57) (ls' := [(0, xr 143), (1, xi (↑u)), (2, xi 12)]) (st' := [xi 1, xi 12]) rfl ?_
                refine ex_st 1 (pc' := 67) (ls' := [(0, xr 143), (1, xi (↑u)), (2, xi 12)]) (st' := []) rfl ?_
                refine ex_st 5 (pc' := 75) (ls' := [(0, xr 143), (1, xi (↑u)), (2, xi 12)]) (st' := [xi 2, xr 149]) rfl ?_
                refine ex_iald (j := 2) rfl (by decide) (rfl : xSH[149]? = some _) (by decide) (by decide) (by decide) ?_
                rw [hKd]
                refine ex_st 2 (pc' := 78) (ls' := [(3, xi ((sp_it (sp_D kd vv vo ba ro cd we en cc qv c n ag) u s0).2.2.2 2)), (0, xr 143), (1, xi (↑u)), (2, xi 12)]) (st' := [xr 143]) rfl ?_
                refine ex_callQ (ct_m_putBack (L := L)) (by decide) rfl ⟨rfl, rfl, rfl⟩ ⟨Nat.le_of_ble_eq_true rfl, rfl, rfl⟩ (Nat.le_of_ble_eq_true rfl) rfl (fun ra m2 hQ => ?_)
                obtain ⟨rfl, K3, rfl, b32, b1, b3, b4, bd, hK3⟩ := hQ
                have hRl : Rl K3 L := hR.back (fun k j hk => by unfold x_scr at hk; rw [hK3 _ _ (by omega), hK2g _ _ (by omega), hK1I _ _ (by omega)]) b32 (by rw [b1, hK2g _ _ (by omega), k33, hPb1]) (by rw [b3, hK2g _ _ (by omega), k34, hPb3]) (by rw [b4, hK2g _ _ (by omega), k35, hPb4]) (fun x hx => by rw [bd x hx, hK2g _ _ (by omega), k163 x hx, hPbd x hx])
                refine ex_st 1 (pc' := 82) (ls' := [(3, xi ((sp_it (sp_D kd vv vo ba ro cd we en cc qv c n ag) u s0).2.2.2 2)), (0, xr 143), (1, xi (↑u)), (2, xi 12)]) (st' := [xi ((sp_it (sp_D kd vv vo ba ro cd we en cc qv c n ag) u s0).2.2.2 2)]) rfl ?_
                refine ex_reti rfl rfl ?_
                exact ⟨rfl, K3, _, rfl, hRl⟩
              · exfalso; omega
            · exfalso; omega
        · exfalso; omega
    · exfalso; omega
set_option maxRecDepth 8000 in
set_option maxHeartbeats 2000000 in
theorem op_on_13 {sc : List Int} {I : Nat → Nat → Int} {L : Nat → Nat → Int64} (hR : Rl I L) {u : Nat} (hu : u ≤ 60) : x_PQ sc xN_G_on [xr 0, xi (↑u), xi 13] xN_m_on [xr 143, xi (↑u), xi 13] (xSH, I, L) := by
  obtain ⟨⟨hNs, hNo, hNa, hNb, hNr, hNd, hNg, hNe, hNp, hNk⟩, hI, hT, hX, hC, hH, hQ⟩ := id hR
  have hs := hNs
  unfold RNs at hs
  obtain ⟨c, kd, vv, vo, aw, ba, ro, egg, se, hWW, hM⟩ := hR.vw
  have hT2 := hT
  unfold RT at hT2
  obtain ⟨T, nn, cc, cd, we, en, qv, hXt⟩ := RT.tr hT (t := I 143 13) (by omega) (by omega)
  have hX2 := id hXt
  obtain ⟨u1, u2, u3, u4, u5, u6, u7, u8, u9, u10⟩ := hX2
  have hMT := u10 rfl
  obtain ⟨g, hg1, hg, hgs, hgp⟩ := hM.pres
  have hI17 : I 1 7 = I 143 13 := by omega
  have hs64 := sp_mask64 (sp_nz aw) (n := c) (by have := hWW.2.1; omega)
  have hsN : sp_mask (sp_nz aw) c = (((sp_mask (sp_nz aw) c).toNat : Nat) : Int) := by have := (sp_mask_bd (sp_nz aw) c).1; omega
  obtain ⟨hg_1, hg_2, hg_3, hg_4, hg_5, hg_6⟩ := id hNg
  obtain ⟨n, hn⟩ := Int.eq_ofNat_of_zero_le hg_2
  obtain ⟨ag, hag0⟩ : ∃ ag : Nat → Nat, ∀ k, ag k = (I 150 k).toNat := ⟨_, fun _ => rfl⟩
  have hag : ∀ k, k < n → I 150 k = (ag k : Int) ∧ ag k < 5 := fun k hk => by have h1 := hg_5 k (by omega); have h2 := hag0 k; omega
  have hvo : ∀ p, p < c → 0 ≤ vo p ∧ vo p ≤ 9 := fun p hp => (hM.2.2.2.2.2.2.2 p hp).2.2.2.2.2.1
  obtain ⟨s0, hs0⟩ : ∃ s0 : St4, s0 = (aw, egg, se, fun x => I 149 x) := ⟨_, rfl⟩
  have hSW0 : SW I 1 c kd vv vo ba ro s0 := by subst hs0; exact ⟨hWW, fun x hx => (hNd x hx).1⟩
  have hSM0 : SM I c kd vv vo ba ro s0 := by subst hs0; exact ⟨hM, fun x hx => rfl⟩
  have hegg := hM.2.2.1
  have hse0 := hM.2.2.2.2.1
  have hSI0 : SI s0 := by subst hs0; exact ⟨fun x hx => by have := hNd x hx; show 0 ≤ I 149 x ∧ I 149 x ≤ (se : Int); omega, by show 0 ≤ egg; omega, by show egg ≤ 9; omega⟩
  have hs0e : s0.2.2.1 = se := by subst hs0; rfl
  have hn5 : n ≤ 5 := by omega
  have hag1 : ∀ k, k < n → I 4 k = (ag k : Int) ∧ ag k < 5 := fun k hk => by rw [hg_4 k (by omega)]; exact hag k hk
  have hn1 : I 1 4 = (n : Int) := by omega
  have hb01 : ∀ p, p < 6 → I (11 + 3 * p) 3 = 0 ∨ I (11 + 3 * p) 3 = 1 := fun p hp => by rw [hNa.1 p hp]; exact x_b01 _
  have hze : 0 ≤ I 5 2 ∧ I 5 2 ≤ 5 := by have h1 := hNe.1; have h2 := hNe.2.1; have h3 := hNe.2.2.1; omega
  have hzp : 0 ≤ I 7 2 ∧ I 7 2 ≤ 10 := by have h1 := hNp.1; have h2 := hNp.2.1; have h3 := hNp.2.2.1; omega
  have hzk : 0 ≤ I 9 2 ∧ I 9 2 ≤ 8 := by have h1 := hNk.1; have h2 := hNk.2.1; have h3 := hNk.2.2.1; omega
  refine x_CQ.of (M := xM_G_on) rfl (Nat.le_of_ble_eq_true rfl) ?_
  refine ex_st 1 (pc' := 1) (ls' := [(0, xr 0), (1, xi (↑u)), (2, xi 13)]) (st' := [xi 13]) rfl ?_
  refine ex_call (ct_G_isZeroOrOne (by first | omega | (constructor <;> omega) | assumption)) (by decide) rfl ⟨rfl, rfl, rfl⟩ ⟨Nat.le_of_ble_eq_true rfl, rfl, rfl⟩ (Nat.le_of_ble_eq_true rfl) rfl ?_
  refine ex_bne rfl (fun h0 => ?_) (fun h0 => ?_)
  · exfalso; omega
  · refine ex_st 3 (pc' := 11) (ls' := [(0, xr 0), (1, xi (↑u)), (2, xi 13)]) (st' := [xi 3]) rfl ?_
    refine ex_call (ct_G_isThing2 (by omega)) (by decide) rfl ⟨rfl, rfl, rfl⟩ ⟨Nat.le_of_ble_eq_true rfl, rfl, rfl⟩ (Nat.le_of_ble_eq_true rfl) rfl ?_
    refine ex_bne rfl (fun h1 => ?_) (fun h1 => ?_)
    · refine ex_st 1 (pc' := 20) (ls' := [(0, xr 0), (1, xi (↑u)), (2, xi 13)]) (st' := [xi (↑u)]) rfl ?_
      refine ex_if rfl (by first | omega | (constructor <;> omega) | assumption) (fun (h2 : (↑u : Int) < 0) => ?_) (fun (h2 : ¬ (↑u : Int) < 0) => ?_)
      · exfalso; omega
      · refine ex_st 2 (pc' := 26) (ls' := [(0, xr 0), (1, xi (↑u)), (2, xi 13)]) (st' := [xi 60, xi (↑u)]) rfl ?_
        refine ex_ic rfl (by first | omega | (constructor <;> omega) | assumption) (by decide) (fun (h3 : (↑u : Int) ≤ 60) => ?_) (fun (h3 : ¬ (↑u : Int) ≤ 60) => ?_)
        · refine ex_st 4 (pc' := 40) (ls' := [(0, xr 0), (1, xi (↑u)), (2, xi 13)]) (st' := [xr 1, xr 57]) rfl ?_
          refine ex_callQ (ct_W_become57_1 (L := L) hb01 hze hzp hzk) (by decide) rfl ⟨rfl, rfl, rfl⟩ ⟨Nat.le_of_ble_eq_true rfl, rfl, rfl⟩ (Nat.le_of_ble_eq_true rfl) rfl (fun ra m2 hQ => ?_)
          obtain ⟨rfl, J0, rfl, hWB⟩ := hQ
          have hJ0 : ∀ k j, ¬ (57 ≤ k ∧ k ≤ 84) → J0 k j = I k j := hWB.2.2.2.2.2.2.2.2
          have hSW0b := WB57.sw hWB hSW0
          have hXt0 := hXt.fr (I' := J0) (fun k j a b => hJ0 k j (by omega))
          have hI57 : J0 57 7 = I 143 13 := by rw [hWB.2.1.2.2.2.2]; exact hI17
          have hn57 : J0 57 4 = (n : Int) := by rw [hWB.2.1.2.1]; exact hn1
          have hag57 : ∀ k, k < n → J0 60 k = (ag k : Int) ∧ ag k < 5 := fun k hk => by rw [hWB.2.2.2.1 k (by omega)]; exact hag1 k hk
          refine ex_st 2 (pc' := 45) (ls' := [(3, xi 0), (0, xr 0), (1, xi (↑u)), (2, xi 13)]) (st' := []) rfl ?_
          refine lp_Gon (L := L) (w1 := 13) (u := u) (by omega) 0 (Nat.zero_le _) s0 J0 hSW0b hSI0 (by omega) hXt0 hI57 hn57 hn5 hag57 (fun J hSJ hJ1 => ?_)
          rw [show u - 0 = u from rfl] at hSJ
          have hJ : ∀ k j, ¬ ((57 ≤ k ∧ k ≤ 84) ∨ (92 ≤ k ∧ k ≤ 103)) → J k j = I k j := fun k j hk => by rw [hJ1 _ _ (by unfold GFW; omega), hJ0 _ _ (by omega)]
          have hJ5 : J 57 5 = (sp_it (sp_D kd vv vo ba ro cd we en cc qv c n ag) u s0).2.1 := hSJ.1.2.2.1
          have hPb1 : J 143 1 = I 143 1 := hJ _ _ (by omega)
          have hPb3 : J 143 3 = I 143 3 := hJ _ _ (by omega)
          have hPb4 : J 143 4 = I 143 4 := hJ _ _ (by omega)
          have hPbd : ∀ x, x < 5 → J 149 x = I 149 x := fun x hx => hJ _ _ (by omega)
          have hJd : J 59 3 = (sp_it (sp_D kd vv vo ba ro cd we en cc qv c n ag) u s0).2.2.2 3 := hSJ.2 3 (by decide)
          refine ex_st 1 (pc' := 65) (ls' := [(3, xi (↑u)), (0, xr 0), (1, xi (↑u)), (2, xi 13)]) (st' := [xi 13]) rfl ?_
          refine ex_st 1 (pc' := 76) (ls' := [(3, xi (↑u)), (0, xr 0), (1, xi (↑u)), (2, xi 13)]) (st' := []) rfl ?_
          refine ex_st 2 (pc' := 78) (ls' := [(3, xi (↑u)), (0, xr 0), (1, xi (↑u)), (2, xi 13)]) (st' := [xi 1, xi 13]) rfl ?_
          refine ex_st 1 (pc' := 92) (ls' := [(3, xi (↑u)), (0, xr 0), (1, xi (↑u)), (2, xi 13)]) (st' := []) rfl ?_
          refine ex_st 6 (pc' := 103) (ls' := [(3, xi (↑u)), (0, xr 0), (1, xi (↑u)), (2, xi 13)]) (st' := [xi 3, xr 59]) rfl ?_
          refine ex_iald (j := 3) rfl (by decide) (rfl : xSH[59]? = some _) (by decide) (by decide) (by decide) ?_
          rw [hJd]
          refine ex_reti rfl rfl ?_
          refine x_CQ.of (M := xM_m_on) rfl (Nat.le_of_ble_eq_true rfl) ?_
          refine ex_st 4 (pc' := 4) (ls' := [(0, xr 143), (1, xi (↑u)), (2, xi 13)]) (st' := [xi 1, xi 0, xi 13, xr 143]) rfl ?_
          refine ex_call (ct_m_in (by first | omega | (constructor <;> omega) | assumption) (by first | omega | (constructor <;> omega) | assumption) (by first | omega | (constructor <;> omega) | assumption)) (by decide) rfl ⟨rfl, rfl, rfl⟩ ⟨Nat.le_of_ble_eq_true rfl, rfl, rfl⟩ (Nat.le_of_ble_eq_true rfl) rfl ?_
          refine ex_bne rfl (fun h4 => ?_) (fun h4 => ?_)
          · exfalso; omega
          · refine ex_st 4 (pc' := 16) (ls' := [(0, xr 143), (1, xi (↑u)), (2, xi 13)]) (st' := [xi 14, xi 10, xi 13, xr 143]) rfl ?_
            refine ex_call (ct_m_in (by first | omega | (constructor <;> omega) | assumption) (by first | omega | (constructor <;> omega) | assumption) (by first | omega | (constructor <;> omega) | assumption)) (by decide) rfl ⟨rfl, rfl, rfl⟩ ⟨Nat.le_of_ble_eq_true rfl, rfl, rfl⟩ (Nat.le_of_ble_eq_true rfl) rfl ?_
            refine ex_bne rfl (fun h5 => ?_) (fun h5 => ?_)
            · refine ex_st 2 (pc' := 26) (ls' := [(0, xr 143), (1, xi (↑u)), (2, xi 13)]) (st' := [xi (↑u), xr 143]) rfl ?_
              refine ex_call (ct_m_isSessions (by first | omega | (constructor <;> omega) | assumption)) (by decide) rfl ⟨rfl, rfl, rfl⟩ ⟨Nat.le_of_ble_eq_true rfl, rfl, rfl⟩ (Nat.le_of_ble_eq_true rfl) rfl ?_
              refine ex_bne rfl (fun h6 => ?_) (fun h6 => ?_)
              · refine ex_st 1 (pc' := 36) (ls' := [(0, xr 143), (1, xi (↑u)), (2, xi 13)]) (st' := [xr 143]) rfl ?_
                refine ex_callQ (ct_m_save (L := L)) (by decide) rfl ⟨rfl, rfl, rfl⟩ ⟨Nat.le_of_ble_eq_true rfl, rfl, rfl⟩ (Nat.le_of_ble_eq_true rfl) rfl (fun ra m2 hQ => ?_)
                obtain ⟨rfl, K1, rfl, k32, k33, k34, k35, k163, hK1⟩ := hQ
                have hK1I : ∀ k j, ¬ ((57 ≤ k ∧ k ≤ 84) ∨ (92 ≤ k ∧ k ≤ 103) ∨ (k = 143 ∧ (j = 32 ∨ j = 33 ∨ j = 34 ∨ j = 35)) ∨ (k = 163 ∧ j < 5)) → K1 k j = I k j := fun k j hk => by rw [hK1 _ _ (by omega), hJ _ _ (by omega)]
                have hSMK : SM K1 c kd vv vo ba ro s0 := ⟨hSM0.1.set (fun k j a b => hK1I k j (by omega)) (hK1I _ _ (by omega)) (hK1I _ _ (by omega)) ⟨by rw [hK1I _ _ (by omega)]; exact hSM0.1.2.2.1, hSM0.1.2.2.2.1⟩ ⟨by rw [hK1I _ _ (by omega)]; exact hSM0.1.2.2.2.2.1, hSM0.1.2.2.2.2.2.1⟩, fun x hx => by rw [hK1I _ _ (by omega)]; exact hSM0.2 x hx⟩
                have hTK := hMT.fr3 (I' := K1) (hK1I _ _ (by omega)) (fun k j a b => hK1I k j (by omega))
                have hnK : K1 143 2 = (n : Int) := by rw [hK1I _ _ (by omega)]; exact hn
                have hagK : ∀ k, k < n → K1 150 k = (ag k : Int) ∧ ag k < 5 := fun k hk => by rw [hK1I _ _ (by omega)]; exact hag k hk
                refine ex_st 2 (pc' := 41) (ls' := [(0, xr 143), (1, xi (↑u)), (2, xi 13)]) (st' := [xi (↑u), xr 143]) rfl ?_
                refine ex_callQ (ct_m_goSessions (L := L) hSMK hSI0 (u := u) (by omega) (by omega) hTK hnK hn5 hagK (md := 2000000000) k32 (by decide) (by omega)) (by decide) rfl ⟨rfl, rfl, rfl⟩ ⟨Nat.le_of_ble_eq_true rfl, rfl, rfl⟩ (Nat.le_of_ble_eq_true rfl) rfl (fun ra m2 hQ => ?_)
                obtain ⟨rfl, K2, rfl, hSK, hK2⟩ := hQ
                have hK2g : ∀ k j, ¬ ((160 ≤ k ∧ k ≤ 162) ∨ (k = 143 ∧ (j = 3 ∨ j = 4)) ∨ (k = 149 ∧ j < 5)) → K2 k j = K1 k j := fun k j hk => hK2 k j (by unfold GFM; omega)
                have hK5 : K2 143 3 = (sp_it (sp_D kd vv vo ba ro cd we en cc qv c n ag) u s0).2.1 := hSK.1.2.2.1
                have hKd : K2 149 3 = (sp_it (sp_D kd vv vo ba ro cd we en cc qv c n ag) u s0).2.2.2 3 := hSK.2 3 (by decide)
                refine ex_st 1 (pc' := 45) (ls' := [(0, xr 143), (1, xi (↑u)), (2, xi 13)]) (st' := [xi 13]) rfl ?_
                refine ex_st 1 (pc' := 55) (ls' := [(0, xr 143), (1, xi (↑u)), (2, xi 13)]) (st' := []) rfl ?_
                refine ex_st 2 (pc' := 57) (ls' := [(0, xr 143), (1, xi (↑u)), (2, xi 13)]) (st' := [xi 1, xi 13]) rfl ?_
                refine ex_st 1 (pc' := 67) (ls' := [(0, xr 143), (1, xi (↑u)), (2, xi 13)]) (st' := []) rfl ?_
                refine ex_st 5 (pc' := 75) (ls' := [(0, xr 143), (1, xi (↑u)), (2, xi 13)]) (st' := [xi 3, xr 149]) rfl ?_
                refine ex_iald (j := 3) rfl (by decide) (rfl : xSH[149]? = some _) (by decide) (by decide) (by decide) ?_
                rw [hKd]
                refine ex_st 2 (pc' := 78) (ls' := [(3, xi ((sp_it (sp_D kd vv vo ba ro cd we en cc qv c n ag) u s0).2.2.2 3)), (0, xr 143), (1, xi (↑u)), (2, xi 13)]) (st' := [xr 143]) rfl ?_
                refine ex_callQ (ct_m_putBack (L := L)) (by decide) rfl ⟨rfl, rfl, rfl⟩ ⟨Nat.le_of_ble_eq_true rfl, rfl, rfl⟩ (Nat.le_of_ble_eq_true rfl) rfl (fun ra m2 hQ => ?_)
                obtain ⟨rfl, K3, rfl, b32, b1, b3, b4, bd, hK3⟩ := hQ
                have hRl : Rl K3 L := hR.back (fun k j hk => by unfold x_scr at hk; rw [hK3 _ _ (by omega), hK2g _ _ (by omega), hK1I _ _ (by omega)]) b32 (by rw [b1, hK2g _ _ (by omega), k33, hPb1]) (by rw [b3, hK2g _ _ (by omega), k34, hPb3]) (by rw [b4, hK2g _ _ (by omega), k35, hPb4]) (fun x hx => by rw [bd x hx, hK2g _ _ (by omega), k163 x hx, hPbd x hx])
                refine ex_st 1 (pc' := 82) (ls' := [(3, xi ((sp_it (sp_D kd vv vo ba ro cd we en cc qv c n ag) u s0).2.2.2 3)), (0, xr 143), (1, xi (↑u)), (2, xi 13)]) (st' := [xi ((sp_it (sp_D kd vv vo ba ro cd we en cc qv c n ag) u s0).2.2.2 3)]) rfl ?_
                refine ex_reti rfl rfl ?_
                exact ⟨rfl, K3, _, rfl, hRl⟩
              · exfalso; omega
            · exfalso; omega
        · exfalso; omega
    · exfalso; omega
set_option maxRecDepth 8000 in
set_option maxHeartbeats 2000000 in
theorem op_on_14 {sc : List Int} {I : Nat → Nat → Int} {L : Nat → Nat → Int64} (hR : Rl I L) {u : Nat} (hu : u ≤ 60) : x_PQ sc xN_G_on [xr 0, xi (↑u), xi 14] xN_m_on [xr 143, xi (↑u), xi 14] (xSH, I, L) := by
  obtain ⟨⟨hNs, hNo, hNa, hNb, hNr, hNd, hNg, hNe, hNp, hNk⟩, hI, hT, hX, hC, hH, hQ⟩ := id hR
  have hs := hNs
  unfold RNs at hs
  obtain ⟨c, kd, vv, vo, aw, ba, ro, egg, se, hWW, hM⟩ := hR.vw
  have hT2 := hT
  unfold RT at hT2
  obtain ⟨T, nn, cc, cd, we, en, qv, hXt⟩ := RT.tr hT (t := I 143 13) (by omega) (by omega)
  have hX2 := id hXt
  obtain ⟨u1, u2, u3, u4, u5, u6, u7, u8, u9, u10⟩ := hX2
  have hMT := u10 rfl
  obtain ⟨g, hg1, hg, hgs, hgp⟩ := hM.pres
  have hI17 : I 1 7 = I 143 13 := by omega
  have hs64 := sp_mask64 (sp_nz aw) (n := c) (by have := hWW.2.1; omega)
  have hsN : sp_mask (sp_nz aw) c = (((sp_mask (sp_nz aw) c).toNat : Nat) : Int) := by have := (sp_mask_bd (sp_nz aw) c).1; omega
  obtain ⟨hg_1, hg_2, hg_3, hg_4, hg_5, hg_6⟩ := id hNg
  obtain ⟨n, hn⟩ := Int.eq_ofNat_of_zero_le hg_2
  obtain ⟨ag, hag0⟩ : ∃ ag : Nat → Nat, ∀ k, ag k = (I 150 k).toNat := ⟨_, fun _ => rfl⟩
  have hag : ∀ k, k < n → I 150 k = (ag k : Int) ∧ ag k < 5 := fun k hk => by have h1 := hg_5 k (by omega); have h2 := hag0 k; omega
  have hvo : ∀ p, p < c → 0 ≤ vo p ∧ vo p ≤ 9 := fun p hp => (hM.2.2.2.2.2.2.2 p hp).2.2.2.2.2.1
  obtain ⟨s0, hs0⟩ : ∃ s0 : St4, s0 = (aw, egg, se, fun x => I 149 x) := ⟨_, rfl⟩
  have hSW0 : SW I 1 c kd vv vo ba ro s0 := by subst hs0; exact ⟨hWW, fun x hx => (hNd x hx).1⟩
  have hSM0 : SM I c kd vv vo ba ro s0 := by subst hs0; exact ⟨hM, fun x hx => rfl⟩
  have hegg := hM.2.2.1
  have hse0 := hM.2.2.2.2.1
  have hSI0 : SI s0 := by subst hs0; exact ⟨fun x hx => by have := hNd x hx; show 0 ≤ I 149 x ∧ I 149 x ≤ (se : Int); omega, by show 0 ≤ egg; omega, by show egg ≤ 9; omega⟩
  have hs0e : s0.2.2.1 = se := by subst hs0; rfl
  have hn5 : n ≤ 5 := by omega
  have hag1 : ∀ k, k < n → I 4 k = (ag k : Int) ∧ ag k < 5 := fun k hk => by rw [hg_4 k (by omega)]; exact hag k hk
  have hn1 : I 1 4 = (n : Int) := by omega
  have hb01 : ∀ p, p < 6 → I (11 + 3 * p) 3 = 0 ∨ I (11 + 3 * p) 3 = 1 := fun p hp => by rw [hNa.1 p hp]; exact x_b01 _
  have hze : 0 ≤ I 5 2 ∧ I 5 2 ≤ 5 := by have h1 := hNe.1; have h2 := hNe.2.1; have h3 := hNe.2.2.1; omega
  have hzp : 0 ≤ I 7 2 ∧ I 7 2 ≤ 10 := by have h1 := hNp.1; have h2 := hNp.2.1; have h3 := hNp.2.2.1; omega
  have hzk : 0 ≤ I 9 2 ∧ I 9 2 ≤ 8 := by have h1 := hNk.1; have h2 := hNk.2.1; have h3 := hNk.2.2.1; omega
  refine x_CQ.of (M := xM_G_on) rfl (Nat.le_of_ble_eq_true rfl) ?_
  refine ex_st 1 (pc' := 1) (ls' := [(0, xr 0), (1, xi (↑u)), (2, xi 14)]) (st' := [xi 14]) rfl ?_
  refine ex_call (ct_G_isZeroOrOne (by first | omega | (constructor <;> omega) | assumption)) (by decide) rfl ⟨rfl, rfl, rfl⟩ ⟨Nat.le_of_ble_eq_true rfl, rfl, rfl⟩ (Nat.le_of_ble_eq_true rfl) rfl ?_
  refine ex_bne rfl (fun h0 => ?_) (fun h0 => ?_)
  · exfalso; omega
  · refine ex_st 3 (pc' := 11) (ls' := [(0, xr 0), (1, xi (↑u)), (2, xi 14)]) (st' := [xi 4]) rfl ?_
    refine ex_call (ct_G_isThing2 (by omega)) (by decide) rfl ⟨rfl, rfl, rfl⟩ ⟨Nat.le_of_ble_eq_true rfl, rfl, rfl⟩ (Nat.le_of_ble_eq_true rfl) rfl ?_
    refine ex_bne rfl (fun h1 => ?_) (fun h1 => ?_)
    · refine ex_st 1 (pc' := 20) (ls' := [(0, xr 0), (1, xi (↑u)), (2, xi 14)]) (st' := [xi (↑u)]) rfl ?_
      refine ex_if rfl (by first | omega | (constructor <;> omega) | assumption) (fun (h2 : (↑u : Int) < 0) => ?_) (fun (h2 : ¬ (↑u : Int) < 0) => ?_)
      · exfalso; omega
      · refine ex_st 2 (pc' := 26) (ls' := [(0, xr 0), (1, xi (↑u)), (2, xi 14)]) (st' := [xi 60, xi (↑u)]) rfl ?_
        refine ex_ic rfl (by first | omega | (constructor <;> omega) | assumption) (by decide) (fun (h3 : (↑u : Int) ≤ 60) => ?_) (fun (h3 : ¬ (↑u : Int) ≤ 60) => ?_)
        · refine ex_st 4 (pc' := 40) (ls' := [(0, xr 0), (1, xi (↑u)), (2, xi 14)]) (st' := [xr 1, xr 57]) rfl ?_
          refine ex_callQ (ct_W_become57_1 (L := L) hb01 hze hzp hzk) (by decide) rfl ⟨rfl, rfl, rfl⟩ ⟨Nat.le_of_ble_eq_true rfl, rfl, rfl⟩ (Nat.le_of_ble_eq_true rfl) rfl (fun ra m2 hQ => ?_)
          obtain ⟨rfl, J0, rfl, hWB⟩ := hQ
          have hJ0 : ∀ k j, ¬ (57 ≤ k ∧ k ≤ 84) → J0 k j = I k j := hWB.2.2.2.2.2.2.2.2
          have hSW0b := WB57.sw hWB hSW0
          have hXt0 := hXt.fr (I' := J0) (fun k j a b => hJ0 k j (by omega))
          have hI57 : J0 57 7 = I 143 13 := by rw [hWB.2.1.2.2.2.2]; exact hI17
          have hn57 : J0 57 4 = (n : Int) := by rw [hWB.2.1.2.1]; exact hn1
          have hag57 : ∀ k, k < n → J0 60 k = (ag k : Int) ∧ ag k < 5 := fun k hk => by rw [hWB.2.2.2.1 k (by omega)]; exact hag1 k hk
          refine ex_st 2 (pc' := 45) (ls' := [(3, xi 0), (0, xr 0), (1, xi (↑u)), (2, xi 14)]) (st' := []) rfl ?_
          refine lp_Gon (L := L) (w1 := 14) (u := u) (by omega) 0 (Nat.zero_le _) s0 J0 hSW0b hSI0 (by omega) hXt0 hI57 hn57 hn5 hag57 (fun J hSJ hJ1 => ?_)
          rw [show u - 0 = u from rfl] at hSJ
          have hJ : ∀ k j, ¬ ((57 ≤ k ∧ k ≤ 84) ∨ (92 ≤ k ∧ k ≤ 103)) → J k j = I k j := fun k j hk => by rw [hJ1 _ _ (by unfold GFW; omega), hJ0 _ _ (by omega)]
          have hJ5 : J 57 5 = (sp_it (sp_D kd vv vo ba ro cd we en cc qv c n ag) u s0).2.1 := hSJ.1.2.2.1
          have hPb1 : J 143 1 = I 143 1 := hJ _ _ (by omega)
          have hPb3 : J 143 3 = I 143 3 := hJ _ _ (by omega)
          have hPb4 : J 143 4 = I 143 4 := hJ _ _ (by omega)
          have hPbd : ∀ x, x < 5 → J 149 x = I 149 x := fun x hx => hJ _ _ (by omega)
          have hJd : J 59 4 = (sp_it (sp_D kd vv vo ba ro cd we en cc qv c n ag) u s0).2.2.2 4 := hSJ.2 4 (by decide)
          refine ex_st 1 (pc' := 65) (ls' := [(3, xi (↑u)), (0, xr 0), (1, xi (↑u)), (2, xi 14)]) (st' := [xi 14]) rfl ?_
          refine ex_st 1 (pc' := 76) (ls' := [(3, xi (↑u)), (0, xr 0), (1, xi (↑u)), (2, xi 14)]) (st' := []) rfl ?_
          refine ex_st 2 (pc' := 78) (ls' := [(3, xi (↑u)), (0, xr 0), (1, xi (↑u)), (2, xi 14)]) (st' := [xi 1, xi 14]) rfl ?_
          refine ex_st 1 (pc' := 92) (ls' := [(3, xi (↑u)), (0, xr 0), (1, xi (↑u)), (2, xi 14)]) (st' := []) rfl ?_
          refine ex_st 6 (pc' := 103) (ls' := [(3, xi (↑u)), (0, xr 0), (1, xi (↑u)), (2, xi 14)]) (st' := [xi 4, xr 59]) rfl ?_
          refine ex_iald (j := 4) rfl (by decide) (rfl : xSH[59]? = some _) (by decide) (by decide) (by decide) ?_
          rw [hJd]
          refine ex_reti rfl rfl ?_
          refine x_CQ.of (M := xM_m_on) rfl (Nat.le_of_ble_eq_true rfl) ?_
          refine ex_st 4 (pc' := 4) (ls' := [(0, xr 143), (1, xi (↑u)), (2, xi 14)]) (st' := [xi 1, xi 0, xi 14, xr 143]) rfl ?_
          refine ex_call (ct_m_in (by first | omega | (constructor <;> omega) | assumption) (by first | omega | (constructor <;> omega) | assumption) (by first | omega | (constructor <;> omega) | assumption)) (by decide) rfl ⟨rfl, rfl, rfl⟩ ⟨Nat.le_of_ble_eq_true rfl, rfl, rfl⟩ (Nat.le_of_ble_eq_true rfl) rfl ?_
          refine ex_bne rfl (fun h4 => ?_) (fun h4 => ?_)
          · exfalso; omega
          · refine ex_st 4 (pc' := 16) (ls' := [(0, xr 143), (1, xi (↑u)), (2, xi 14)]) (st' := [xi 14, xi 10, xi 14, xr 143]) rfl ?_
            refine ex_call (ct_m_in (by first | omega | (constructor <;> omega) | assumption) (by first | omega | (constructor <;> omega) | assumption) (by first | omega | (constructor <;> omega) | assumption)) (by decide) rfl ⟨rfl, rfl, rfl⟩ ⟨Nat.le_of_ble_eq_true rfl, rfl, rfl⟩ (Nat.le_of_ble_eq_true rfl) rfl ?_
            refine ex_bne rfl (fun h5 => ?_) (fun h5 => ?_)
            · refine ex_st 2 (pc' := 26) (ls' := [(0, xr 143), (1, xi (↑u)), (2, xi 14)]) (st' := [xi (↑u), xr 143]) rfl ?_
              refine ex_call (ct_m_isSessions (by first | omega | (constructor <;> omega) | assumption)) (by decide) rfl ⟨rfl, rfl, rfl⟩ ⟨Nat.le_of_ble_eq_true rfl, rfl, rfl⟩ (Nat.le_of_ble_eq_true rfl) rfl ?_
              refine ex_bne rfl (fun h6 => ?_) (fun h6 => ?_)
              · refine ex_st 1 (pc' := 36) (ls' := [(0, xr 143), (1, xi (↑u)), (2, xi 14)]) (st' := [xr 143]) rfl ?_
                refine ex_callQ (ct_m_save (L := L)) (by decide) rfl ⟨rfl, rfl, rfl⟩ ⟨Nat.le_of_ble_eq_true rfl, rfl, rfl⟩ (Nat.le_of_ble_eq_true rfl) rfl (fun ra m2 hQ => ?_)
                obtain ⟨rfl, K1, rfl, k32, k33, k34, k35, k163, hK1⟩ := hQ
                have hK1I : ∀ k j, ¬ ((57 ≤ k ∧ k ≤ 84) ∨ (92 ≤ k ∧ k ≤ 103) ∨ (k = 143 ∧ (j = 32 ∨ j = 33 ∨ j = 34 ∨ j = 35)) ∨ (k = 163 ∧ j < 5)) → K1 k j = I k j := fun k j hk => by rw [hK1 _ _ (by omega), hJ _ _ (by omega)]
                have hSMK : SM K1 c kd vv vo ba ro s0 := ⟨hSM0.1.set (fun k j a b => hK1I k j (by omega)) (hK1I _ _ (by omega)) (hK1I _ _ (by omega)) ⟨by rw [hK1I _ _ (by omega)]; exact hSM0.1.2.2.1, hSM0.1.2.2.2.1⟩ ⟨by rw [hK1I _ _ (by omega)]; exact hSM0.1.2.2.2.2.1, hSM0.1.2.2.2.2.2.1⟩, fun x hx => by rw [hK1I _ _ (by omega)]; exact hSM0.2 x hx⟩
                have hTK := hMT.fr3 (I' := K1) (hK1I _ _ (by omega)) (fun k j a b => hK1I k j (by omega))
                have hnK : K1 143 2 = (n : Int) := by rw [hK1I _ _ (by omega)]; exact hn
                have hagK : ∀ k, k < n → K1 150 k = (ag k : Int) ∧ ag k < 5 := fun k hk => by rw [hK1I _ _ (by omega)]; exact hag k hk
                refine ex_st 2 (pc' := 41) (ls' := [(0, xr 143), (1, xi (↑u)), (2, xi 14)]) (st' := [xi (↑u), xr 143]) rfl ?_
                refine ex_callQ (ct_m_goSessions (L := L) hSMK hSI0 (u := u) (by omega) (by omega) hTK hnK hn5 hagK (md := 2000000000) k32 (by decide) (by omega)) (by decide) rfl ⟨rfl, rfl, rfl⟩ ⟨Nat.le_of_ble_eq_true rfl, rfl, rfl⟩ (Nat.le_of_ble_eq_true rfl) rfl (fun ra m2 hQ => ?_)
                obtain ⟨rfl, K2, rfl, hSK, hK2⟩ := hQ
                have hK2g : ∀ k j, ¬ ((160 ≤ k ∧ k ≤ 162) ∨ (k = 143 ∧ (j = 3 ∨ j = 4)) ∨ (k = 149 ∧ j < 5)) → K2 k j = K1 k j := fun k j hk => hK2 k j (by unfold GFM; omega)
                have hK5 : K2 143 3 = (sp_it (sp_D kd vv vo ba ro cd we en cc qv c n ag) u s0).2.1 := hSK.1.2.2.1
                have hKd : K2 149 4 = (sp_it (sp_D kd vv vo ba ro cd we en cc qv c n ag) u s0).2.2.2 4 := hSK.2 4 (by decide)
                refine ex_st 1 (pc' := 45) (ls' := [(0, xr 143), (1, xi (↑u)), (2, xi 14)]) (st' := [xi 14]) rfl ?_
                refine ex_st 1 (pc' := 55) (ls' := [(0, xr 143), (1, xi (↑u)), (2, xi 14)]) (st' := []) rfl ?_
                refine ex_st 2 (pc' := 57) (ls' := [(0, xr 143), (1, xi (↑u)), (2, xi 14)]) (st' := [xi 1, xi 14]) rfl ?_
                refine ex_st 1 (pc' := 67) (ls' := [(0, xr 143), (1, xi (↑u)), (2, xi 14)]) (st' := []) rfl ?_
                refine ex_st 5 (pc' := 75) (ls' := [(0, xr 143), (1, xi (↑u)), (2, xi 14)]) (st' := [xi 4, xr 149]) rfl ?_
                refine ex_iald (j := 4) rfl (by decide) (rfl : xSH[149]? = some _) (by decide) (by decide) (by decide) ?_
                rw [hKd]
                refine ex_st 2 (pc' := 78) (ls' := [(3, xi ((sp_it (sp_D kd vv vo ba ro cd we en cc qv c n ag) u s0).2.2.2 4)), (0, xr 143), (1, xi (↑u)), (2, xi 14)]) (st' := [xr 143]) rfl ?_
                refine ex_callQ (ct_m_putBack (L := L)) (by decide) rfl ⟨rfl, rfl, rfl⟩ ⟨Nat.le_of_ble_eq_true rfl, rfl, rfl⟩ (Nat.le_of_ble_eq_true rfl) rfl (fun ra m2 hQ => ?_)
                obtain ⟨rfl, K3, rfl, b32, b1, b3, b4, bd, hK3⟩ := hQ
                have hRl : Rl K3 L := hR.back (fun k j hk => by unfold x_scr at hk; rw [hK3 _ _ (by omega), hK2g _ _ (by omega), hK1I _ _ (by omega)]) b32 (by rw [b1, hK2g _ _ (by omega), k33, hPb1]) (by rw [b3, hK2g _ _ (by omega), k34, hPb3]) (by rw [b4, hK2g _ _ (by omega), k35, hPb4]) (fun x hx => by rw [bd x hx, hK2g _ _ (by omega), k163 x hx, hPbd x hx])
                refine ex_st 1 (pc' := 82) (ls' := [(3, xi ((sp_it (sp_D kd vv vo ba ro cd we en cc qv c n ag) u s0).2.2.2 4)), (0, xr 143), (1, xi (↑u)), (2, xi 14)]) (st' := [xi ((sp_it (sp_D kd vv vo ba ro cd we en cc qv c n ag) u s0).2.2.2 4)]) rfl ?_
                refine ex_reti rfl rfl ?_
                exact ⟨rfl, K3, _, rfl, hRl⟩
              · exfalso; omega
            · exfalso; omega
        · exfalso; omega
    · exfalso; omega
theorem op_on_x {sc : List Int} {I : Nat → Nat → Int} {L : Nat → Nat → Int64} (hR : Rl I L) {x w : Int} (hx : x_R x) (hw : x_R w) (h : ¬ ((0 ≤ x ∧ x ≤ 60) ∧ (w = 0 ∨ w = 1 ∨ (10 ≤ w ∧ w < 15)))) : x_PQ sc xN_G_on [xr 0, xi x, xi w] xN_m_on [xr 143, xi x, xi w] (xSH, I, L) := by
  obtain ⟨⟨hNs, hNo, hNa, hNb, hNr, hNd, hNg, hNe, hNp, hNk⟩, hI, hT, hX, hC, hH, hQ⟩ := id hR
  have hs := hNs
  unfold RNs at hs
  refine x_CQ.of (M := xM_G_on) rfl (Nat.le_of_ble_eq_true rfl) ?_
  refine ex_st 1 (pc' := 1) (ls' := [(0, xr 0), (1, xi x), (2, xi w)]) (st' := [xi w]) rfl ?_
  refine ex_call (ct_G_isZeroOrOne (by first | omega | (constructor <;> omega) | assumption)) (by decide) rfl ⟨rfl, rfl, rfl⟩ ⟨Nat.le_of_ble_eq_true rfl, rfl, rfl⟩ (Nat.le_of_ble_eq_true rfl) rfl ?_
  refine ex_bne rfl (fun h0 => ?_) (fun h0 => ?_)
  · refine ex_st 1 (pc' := 20) (ls' := [(0, xr 0), (1, xi x), (2, xi w)]) (st' := [xi x]) rfl ?_
    refine ex_if rfl (by first | omega | (constructor <;> omega) | assumption) (fun (h1 : x < 0) => ?_) (fun (h1 : ¬ x < 0) => ?_)
    · refine ex_st 1 (pc' := 31) (ls' := [(0, xr 0), (1, xi x), (2, xi w)]) (st' := [xi (-2)]) rfl ?_
      refine ex_reti rfl rfl ?_
      refine x_CQ.of (M := xM_m_on) rfl (Nat.le_of_ble_eq_true rfl) ?_
      refine ex_st 4 (pc' := 4) (ls' := [(0, xr 143), (1, xi x), (2, xi w)]) (st' := [xi 1, xi 0, xi w, xr 143]) rfl ?_
      refine ex_call (ct_m_in (by first | omega | (constructor <;> omega) | assumption) (by first | omega | (constructor <;> omega) | assumption) (by first | omega | (constructor <;> omega) | assumption)) (by decide) rfl ⟨rfl, rfl, rfl⟩ ⟨Nat.le_of_ble_eq_true rfl, rfl, rfl⟩ (Nat.le_of_ble_eq_true rfl) rfl ?_
      refine ex_bne rfl (fun h2 => ?_) (fun h2 => ?_)
      · refine ex_st 2 (pc' := 26) (ls' := [(0, xr 143), (1, xi x), (2, xi w)]) (st' := [xi x, xr 143]) rfl ?_
        refine ex_call (ct_m_isSessions (by first | omega | (constructor <;> omega) | assumption)) (by decide) rfl ⟨rfl, rfl, rfl⟩ ⟨Nat.le_of_ble_eq_true rfl, rfl, rfl⟩ (Nat.le_of_ble_eq_true rfl) rfl ?_
        refine ex_bne rfl (fun h3 => ?_) (fun h3 => ?_)
        · exfalso; omega
        · refine ex_st 1 (pc' := 34) (ls' := [(0, xr 143), (1, xi x), (2, xi w)]) (st' := [xi (-2)]) rfl ?_
          refine ex_reti rfl rfl ?_
          exact ⟨x_req (by first | rfl | omega), _, _, rfl, hR⟩
      · exfalso; omega
    · refine ex_st 2 (pc' := 26) (ls' := [(0, xr 0), (1, xi x), (2, xi w)]) (st' := [xi 60, xi x]) rfl ?_
      refine ex_ic rfl (by first | omega | (constructor <;> omega) | assumption) (by decide) (fun (h4 : x ≤ 60) => ?_) (fun (h4 : ¬ x ≤ 60) => ?_)
      · exfalso; omega
      · refine ex_st 1 (pc' := 31) (ls' := [(0, xr 0), (1, xi x), (2, xi w)]) (st' := [xi (-2)]) rfl ?_
        refine ex_reti rfl rfl ?_
        refine x_CQ.of (M := xM_m_on) rfl (Nat.le_of_ble_eq_true rfl) ?_
        refine ex_st 4 (pc' := 4) (ls' := [(0, xr 143), (1, xi x), (2, xi w)]) (st' := [xi 1, xi 0, xi w, xr 143]) rfl ?_
        refine ex_call (ct_m_in (by first | omega | (constructor <;> omega) | assumption) (by first | omega | (constructor <;> omega) | assumption) (by first | omega | (constructor <;> omega) | assumption)) (by decide) rfl ⟨rfl, rfl, rfl⟩ ⟨Nat.le_of_ble_eq_true rfl, rfl, rfl⟩ (Nat.le_of_ble_eq_true rfl) rfl ?_
        refine ex_bne rfl (fun h5 => ?_) (fun h5 => ?_)
        · refine ex_st 2 (pc' := 26) (ls' := [(0, xr 143), (1, xi x), (2, xi w)]) (st' := [xi x, xr 143]) rfl ?_
          refine ex_call (ct_m_isSessions (by first | omega | (constructor <;> omega) | assumption)) (by decide) rfl ⟨rfl, rfl, rfl⟩ ⟨Nat.le_of_ble_eq_true rfl, rfl, rfl⟩ (Nat.le_of_ble_eq_true rfl) rfl ?_
          refine ex_bne rfl (fun h6 => ?_) (fun h6 => ?_)
          · exfalso; omega
          · refine ex_st 1 (pc' := 34) (ls' := [(0, xr 143), (1, xi x), (2, xi w)]) (st' := [xi (-2)]) rfl ?_
            refine ex_reti rfl rfl ?_
            exact ⟨x_req (by first | rfl | omega), _, _, rfl, hR⟩
        · exfalso; omega
  · refine ex_st 3 (pc' := 11) (ls' := [(0, xr 0), (1, xi x), (2, xi w)]) (st' := [xi (w - 10)]) rfl ?_
    refine ex_call (ct_G_isThing2 (by omega)) (by decide) rfl ⟨rfl, rfl, rfl⟩ ⟨Nat.le_of_ble_eq_true rfl, rfl, rfl⟩ (Nat.le_of_ble_eq_true rfl) rfl ?_
    refine ex_bne rfl (fun h7 => ?_) (fun h7 => ?_)
    · refine ex_st 1 (pc' := 20) (ls' := [(0, xr 0), (1, xi x), (2, xi w)]) (st' := [xi x]) rfl ?_
      refine ex_if rfl (by first | omega | (constructor <;> omega) | assumption) (fun (h8 : x < 0) => ?_) (fun (h8 : ¬ x < 0) => ?_)
      · refine ex_st 1 (pc' := 31) (ls' := [(0, xr 0), (1, xi x), (2, xi w)]) (st' := [xi (-2)]) rfl ?_
        refine ex_reti rfl rfl ?_
        refine x_CQ.of (M := xM_m_on) rfl (Nat.le_of_ble_eq_true rfl) ?_
        refine ex_st 4 (pc' := 4) (ls' := [(0, xr 143), (1, xi x), (2, xi w)]) (st' := [xi 1, xi 0, xi w, xr 143]) rfl ?_
        refine ex_call (ct_m_in (by first | omega | (constructor <;> omega) | assumption) (by first | omega | (constructor <;> omega) | assumption) (by first | omega | (constructor <;> omega) | assumption)) (by decide) rfl ⟨rfl, rfl, rfl⟩ ⟨Nat.le_of_ble_eq_true rfl, rfl, rfl⟩ (Nat.le_of_ble_eq_true rfl) rfl ?_
        refine ex_bne rfl (fun h9 => ?_) (fun h9 => ?_)
        · exfalso; omega
        · refine ex_st 4 (pc' := 16) (ls' := [(0, xr 143), (1, xi x), (2, xi w)]) (st' := [xi 14, xi 10, xi w, xr 143]) rfl ?_
          refine ex_call (ct_m_in (by first | omega | (constructor <;> omega) | assumption) (by first | omega | (constructor <;> omega) | assumption) (by first | omega | (constructor <;> omega) | assumption)) (by decide) rfl ⟨rfl, rfl, rfl⟩ ⟨Nat.le_of_ble_eq_true rfl, rfl, rfl⟩ (Nat.le_of_ble_eq_true rfl) rfl ?_
          refine ex_bne rfl (fun h10 => ?_) (fun h10 => ?_)
          · refine ex_st 2 (pc' := 26) (ls' := [(0, xr 143), (1, xi x), (2, xi w)]) (st' := [xi x, xr 143]) rfl ?_
            refine ex_call (ct_m_isSessions (by first | omega | (constructor <;> omega) | assumption)) (by decide) rfl ⟨rfl, rfl, rfl⟩ ⟨Nat.le_of_ble_eq_true rfl, rfl, rfl⟩ (Nat.le_of_ble_eq_true rfl) rfl ?_
            refine ex_bne rfl (fun h11 => ?_) (fun h11 => ?_)
            · exfalso; omega
            · refine ex_st 1 (pc' := 34) (ls' := [(0, xr 143), (1, xi x), (2, xi w)]) (st' := [xi (-2)]) rfl ?_
              refine ex_reti rfl rfl ?_
              exact ⟨x_req (by first | rfl | omega), _, _, rfl, hR⟩
          · exfalso; omega
      · refine ex_st 2 (pc' := 26) (ls' := [(0, xr 0), (1, xi x), (2, xi w)]) (st' := [xi 60, xi x]) rfl ?_
        refine ex_ic rfl (by first | omega | (constructor <;> omega) | assumption) (by decide) (fun (h12 : x ≤ 60) => ?_) (fun (h12 : ¬ x ≤ 60) => ?_)
        · exfalso; omega
        · refine ex_st 1 (pc' := 31) (ls' := [(0, xr 0), (1, xi x), (2, xi w)]) (st' := [xi (-2)]) rfl ?_
          refine ex_reti rfl rfl ?_
          refine x_CQ.of (M := xM_m_on) rfl (Nat.le_of_ble_eq_true rfl) ?_
          refine ex_st 4 (pc' := 4) (ls' := [(0, xr 143), (1, xi x), (2, xi w)]) (st' := [xi 1, xi 0, xi w, xr 143]) rfl ?_
          refine ex_call (ct_m_in (by first | omega | (constructor <;> omega) | assumption) (by first | omega | (constructor <;> omega) | assumption) (by first | omega | (constructor <;> omega) | assumption)) (by decide) rfl ⟨rfl, rfl, rfl⟩ ⟨Nat.le_of_ble_eq_true rfl, rfl, rfl⟩ (Nat.le_of_ble_eq_true rfl) rfl ?_
          refine ex_bne rfl (fun h13 => ?_) (fun h13 => ?_)
          · exfalso; omega
          · refine ex_st 4 (pc' := 16) (ls' := [(0, xr 143), (1, xi x), (2, xi w)]) (st' := [xi 14, xi 10, xi w, xr 143]) rfl ?_
            refine ex_call (ct_m_in (by first | omega | (constructor <;> omega) | assumption) (by first | omega | (constructor <;> omega) | assumption) (by first | omega | (constructor <;> omega) | assumption)) (by decide) rfl ⟨rfl, rfl, rfl⟩ ⟨Nat.le_of_ble_eq_true rfl, rfl, rfl⟩ (Nat.le_of_ble_eq_true rfl) rfl ?_
            refine ex_bne rfl (fun h14 => ?_) (fun h14 => ?_)
            · refine ex_st 2 (pc' := 26) (ls' := [(0, xr 143), (1, xi x), (2, xi w)]) (st' := [xi x, xr 143]) rfl ?_
              refine ex_call (ct_m_isSessions (by first | omega | (constructor <;> omega) | assumption)) (by decide) rfl ⟨rfl, rfl, rfl⟩ ⟨Nat.le_of_ble_eq_true rfl, rfl, rfl⟩ (Nat.le_of_ble_eq_true rfl) rfl ?_
              refine ex_bne rfl (fun h15 => ?_) (fun h15 => ?_)
              · exfalso; omega
              · refine ex_st 1 (pc' := 34) (ls' := [(0, xr 143), (1, xi x), (2, xi w)]) (st' := [xi (-2)]) rfl ?_
                refine ex_reti rfl rfl ?_
                exact ⟨x_req (by first | rfl | omega), _, _, rfl, hR⟩
            · exfalso; omega
    · refine ex_st 1 (pc' := 18) (ls' := [(0, xr 0), (1, xi x), (2, xi w)]) (st' := [xi (-1)]) rfl ?_
      refine ex_reti rfl rfl ?_
      refine x_CQ.of (M := xM_m_on) rfl (Nat.le_of_ble_eq_true rfl) ?_
      refine ex_st 4 (pc' := 4) (ls' := [(0, xr 143), (1, xi x), (2, xi w)]) (st' := [xi 1, xi 0, xi w, xr 143]) rfl ?_
      refine ex_call (ct_m_in (by first | omega | (constructor <;> omega) | assumption) (by first | omega | (constructor <;> omega) | assumption) (by first | omega | (constructor <;> omega) | assumption)) (by decide) rfl ⟨rfl, rfl, rfl⟩ ⟨Nat.le_of_ble_eq_true rfl, rfl, rfl⟩ (Nat.le_of_ble_eq_true rfl) rfl ?_
      refine ex_bne rfl (fun h16 => ?_) (fun h16 => ?_)
      · exfalso; omega
      · refine ex_st 4 (pc' := 16) (ls' := [(0, xr 143), (1, xi x), (2, xi w)]) (st' := [xi 14, xi 10, xi w, xr 143]) rfl ?_
        refine ex_call (ct_m_in (by first | omega | (constructor <;> omega) | assumption) (by first | omega | (constructor <;> omega) | assumption) (by first | omega | (constructor <;> omega) | assumption)) (by decide) rfl ⟨rfl, rfl, rfl⟩ ⟨Nat.le_of_ble_eq_true rfl, rfl, rfl⟩ (Nat.le_of_ble_eq_true rfl) rfl ?_
        refine ex_bne rfl (fun h17 => ?_) (fun h17 => ?_)
        · exfalso; omega
        · refine ex_st 1 (pc' := 23) (ls' := [(0, xr 143), (1, xi x), (2, xi w)]) (st' := [xi (-1)]) rfl ?_
          refine ex_reti rfl rfl ?_
          exact ⟨x_req (by first | rfl | omega), _, _, rfl, hR⟩
theorem op_on {sc : List Int} {I : Nat → Nat → Int} {L : Nat → Nat → Int64} (hR : Rl I L) {x w : Int} (hx : x_R x) (hw : x_R w) : x_PQ sc xN_G_on [xr 0, xi x, xi w] xN_m_on [xr 143, xi x, xi w] (xSH, I, L) := by
  by_cases h : (0 ≤ x ∧ x ≤ 60) ∧ (w = 0 ∨ w = 1 ∨ (10 ≤ w ∧ w < 15))
  · obtain ⟨⟨h1, h2⟩, h3⟩ := h
    obtain ⟨u, rfl⟩ := Int.eq_ofNat_of_zero_le h1
    rcases (show w = 0 ∨ w = 1 ∨ w = 10 ∨ w = 11 ∨ w = 12 ∨ w = 13 ∨ w = 14 by omega) with rfl | rfl | rfl | rfl | rfl | rfl | rfl
    · exact op_on_0 hR (by omega)
    · exact op_on_1 hR (by omega)
    · exact op_on_10 hR (by omega)
    · exact op_on_11 hR (by omega)
    · exact op_on_12 hR (by omega)
    · exact op_on_13 hR (by omega)
    · exact op_on_14 hR (by omega)
  · exact op_on_x hR hx hw h
