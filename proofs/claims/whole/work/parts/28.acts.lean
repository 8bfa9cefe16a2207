/-! notes of the acts -/
theorem ct_A_note {sc : List Int} {I : Nat → Nat → Int} {L : Nat → Nat → Int64} {n : Nat} (hn : I 104 1 = (n : Int)) (hn1 : n < 1000000) {b : Int} : x_CQ sc 1 xN_A_note [xr 104, xi b] (xSH, I, L) (fun r m' => r = none ∧ ∃ I', m' = (xSH, I', L) ∧ (n < 20 → I' 105 n = b) ∧ I' 104 1 = ((n : Int) + 1) ∧ ∀ k j, (n < 20 → ¬ (k = 105 ∧ j = n)) → ¬ (k = 104 ∧ j = 1) → I' k j = I k j) := by
  refine x_CQ.of (M := xM_A_note) rfl (Nat.le_of_ble_eq_true rfl) ?_
  refine ex_st 2 (pc' := 4) (ls' := [(0, xr 104), (1, xi b)]) (st' := [xi (I 104 1)]) rfl ?_
  rw [hn]
  refine ex_st 1 (pc' := 6) (ls' := [(0, xr 104), (1, xi b)]) (st' := [xi 20, xi (↑n)]) rfl ?_
  refine ex_ic rfl (by constructor <;> omega) (by decide) (fun (h0 : (20 : Int) ≤ (↑n : Int)) => ?_) (fun (h0 : ¬ (20 : Int) ≤ (↑n : Int)) => ?_)
  · refine ex_st 5 (pc' := 26) (ls' := [(0, xr 104), (1, xi b)]) (st' := [xi ((I 104 1) + 1), xr 104]) rfl ?_
    refine ex_pfi rfl (by decide) (rfl : xSH[104]? = some _) (by decide) rfl (by decide) (fun h => by cases h) ?_
    refine ex_retv rfl rfl ?_
    exact ⟨rfl, _, rfl, fun h => absurd h (by omega), by simp [x_up, hn], fun k j h1 h2 => by simp only [x_up]; split <;> first | rfl | (exfalso; omega) | (split <;> first | rfl | (exfalso; omega))⟩
  · refine ex_st 4 (pc' := 17) (ls' := [(0, xr 104), (1, xi b)]) (st' := [xi (I 104 1), xr 105]) rfl ?_
    rw [hn]
    refine ex_st 1 (pc' := 18) (ls' := [(0, xr 104), (1, xi b)]) (st' := [xi b, xi (↑n), xr 105]) rfl ?_
    refine ex_iast (j := n) rfl (by decide) (rfl : xSH[105]? = some _) (by omega) (by omega) (by decide) ?_
    refine ex_st 5 (pc' := 26) (ls' := [(0, xr 104), (1, xi b)]) (st' := [xi (((x_up I 105 n b) 104 1) + 1), xr 104]) rfl ?_
    refine ex_pfi rfl (by decide) (rfl : xSH[104]? = some _) (by decide) rfl (by decide) (fun h => by cases h) ?_
    refine ex_retv rfl rfl ?_
    exact ⟨rfl, _, rfl, fun _ => by simp [x_up], by simp [x_up, hn], fun k j h1 h2 => by simp only [x_up]; (split <;> split) <;> first | rfl | (exfalso; omega) | (split <;> first | rfl | (exfalso; omega))⟩
/-- what follows on the official t, or the egg -/
def sp_follow (I : Nat → Nat → Int) (W k t : Nat) : Nat → Nat → Int := if k = 1 then x_up I (W + 10 + 3 * t) 3 1 else if k = 2 then x_up I (W + 10 + 3 * t) 3 0 else x_up I W 5 (t : Int)

theorem ct_W_follow {sc : List Int} {I : Nat → Nat → Int} {L : Nat → Nat → Int64} {W : Nat} (hWS : WS W) {k t : Nat} (hk : k < 3) (ht : k ≠ 0 → t < 6) : x_CQ sc 1 xN_W_follow [xr W, xi (↑k), xi (↑t)] (xSH, I, L) (fun r m' => r = none ∧ m' = (xSH, sp_follow I W k t, L)) := by
  have hw85 := hWS.2.2.2
  refine x_CQ.of (M := xM_W_follow) rfl (Nat.le_of_ble_eq_true rfl) ?_
  refine ex_st 1 (pc' := 1) (ls' := [(0, xr W), (1, xi (↑k)), (2, xi (↑t))]) (st' := [xi (↑k)]) rfl ?_
  rcases (show k = 0 ∨ k = 1 ∨ k = 2 by omega) with rfl | rfl | rfl
  · refine ex_st 1 (pc' := 54) (ls' := [(0, xr W), (1, xi (0)), (2, xi (↑t))]) (st' := []) rfl ?_
    refine ex_st 2 (pc' := 56) (ls' := [(0, xr W), (1, xi 0), (2, xi (↑t))]) (st' := [xi (↑t), xr W]) rfl ?_
    refine ex_pfi rfl (by have := hWS.2.2.2; omega) hWS.1 (by decide) rfl (by decide) (fun h => by cases h) ?_
    refine ex_retv rfl rfl ?_
    exact ⟨rfl, by simp [sp_follow]⟩
  · refine ex_st 1 (pc' := 28) (ls' := [(0, xr W), (1, xi (1)), (2, xi (↑t))]) (st' := []) rfl ?_
    refine ex_st 1 (pc' := 29) (ls' := [(0, xr W), (1, xi 1), (2, xi (↑t))]) (st' := [xr W]) rfl ?_
    refine ex_gfr rfl (by have := hWS.2.2.2; omega) hWS.1 (by decide) (by decide) rfl ?_
    refine ex_st 1 (pc' := 33) (ls' := [(0, xr W), (1, xi 1), (2, xi (↑t))]) (st' := [xi (↑t), xr (W + 1)]) rfl ?_
    refine ex_aald (q := W + 10 + 3 * t) (j := t) rfl (by have := hWS.2.2.2; omega) hWS.2.1 (by decide) (by omega) (by omega) (by decide) (x_aaW W (by omega)) (by have := hWS.2.2.2; omega) ?_
    refine ex_st 1 (pc' := 35) (ls' := [(0, xr W), (1, xi 1), (2, xi (↑t))]) (st' := [xi 1, xr (W + 10 + 3 * t)]) rfl ?_
    refine ex_pfi rfl (by have := hWS.2.2.2; omega) (hWS.2.2.1 t (by omega)).1 (by decide) rfl (by decide) (fun _ => by first | exact x_b01 _ | simp | omega) ?_
    refine ex_st 1 (pc' := 59) (ls' := [(0, xr W), (1, xi 1), (2, xi (↑t))]) (st' := []) rfl ?_
    refine ex_retv rfl rfl ?_
    exact ⟨rfl, by simp [sp_follow]⟩
  · refine ex_st 1 (pc' := 41) (ls' := [(0, xr W), (1, xi (2)), (2, xi (↑t))]) (st' := []) rfl ?_
    refine ex_st 1 (pc' := 42) (ls' := [(0, xr W), (1, xi 2), (2, xi (↑t))]) (st' := [xr W]) rfl ?_
    refine ex_gfr rfl (by have := hWS.2.2.2; omega) hWS.1 (by decide) (by decide) rfl ?_
    refine ex_st 1 (pc' := 46) (ls' := [(0, xr W), (1, xi 2), (2, xi (↑t))]) (st' := [xi (↑t), xr (W + 1)]) rfl ?_
    refine ex_aald (q := W + 10 + 3 * t) (j := t) rfl (by have := hWS.2.2.2; omega) hWS.2.1 (by decide) (by omega) (by omega) (by decide) (x_aaW W (by omega)) (by have := hWS.2.2.2; omega) ?_
    refine ex_st 1 (pc' := 48) (ls' := [(0, xr W), (1, xi 2), (2, xi (↑t))]) (st' := [xi 0, xr (W + 10 + 3 * t)]) rfl ?_
    refine ex_pfi rfl (by have := hWS.2.2.2; omega) (hWS.2.2.1 t (by omega)).1 (by decide) rfl (by decide) (fun _ => by first | exact x_b01 _ | simp | omega) ?_
    refine ex_st 1 (pc' := 59) (ls' := [(0, xr W), (1, xi 2), (2, xi (↑t))]) (st' := []) rfl ?_
    refine ex_retv rfl rfl ?_
    exact ⟨rfl, by simp [sp_follow]⟩
