/-! small ones -/
theorem ct_Tr_clear {sc : List Int} {I : Nat → Nat → Int} {L : Nat → Nat → Int64} {T : Nat} (hTS : TS T) : x_CE sc 1 xN_Tr_clear [xr T] (xSH, I, L) none (xSH, x_up (x_up (x_up I T 0 0) T 1 0) T 5 0, L) := by
  obtain ⟨hT, hT1, hT2, hT3, hlt⟩ := id hTS
  refine x_CE.of (M := xM_Tr_clear) rfl (Nat.le_of_ble_eq_true rfl) ?_
  refine ex_st 2 (pc' := 2) (ls' := [(0, xr T)]) (st' := [xi 0, xr T]) rfl ?_
  refine ex_pfi rfl (by omega) hT (by decide) rfl (by decide) (fun h => by cases h) ?_
  refine ex_st 2 (pc' := 7) (ls' := [(0, xr T)]) (st' := [xi 0, xr T]) rfl ?_
  refine ex_pfi rfl (by omega) hT (by decide) rfl (by decide) (fun h => by cases h) ?_
  refine ex_st 2 (pc' := 12) (ls' := [(0, xr T)]) (st' := [xi 0, xr T]) rfl ?_
  refine ex_pfi rfl (by omega) hT (by decide) rfl (by decide) (fun h => by cases h) ?_
  refine ex_retv rfl rfl ?_
  exact ⟨rfl, rfl⟩
theorem ct_Tr_testCode {sc : List Int} {I : Nat → Nat → Int} {L : Nat → Nat → Int64} {a b d : Int} : x_CE sc 1 xN_Tr_testCode [xi a, xi b, xi d] (xSH, I, L) (some (xi ((a * 3 + b) * 100 + d))) (xSH, I, L) := by
  refine x_CE.of (M := xM_Tr_testCode) rfl (Nat.le_of_ble_eq_true rfl) ?_
  refine ex_st 9 (pc' := 10) (ls' := [(0, xi a), (1, xi b), (2, xi d)]) (st' := [xi ((((a * 3) + b) * 100) + d)]) rfl ?_
  refine ex_reti rfl rfl ?_
  exact ⟨rfl, rfl⟩
theorem ct_Tr_addCode {sc : List Int} {I : Nat → Nat → Int} {L : Nat → Nat → Int64} {T : Nat} (hTS : TS T) {n : Nat} (hn : I T 5 = (n : Int)) (hn1 : n < 100) {cd : Int} : x_CQ sc 1 xN_Tr_addCode [xr T, xi cd] (xSH, I, L) (fun r m' => r = none ∧ ∃ I', m' = (xSH, I', L) ∧ I' (T + 3) n = cd ∧ I' T 5 = ((n : Int) + 1) ∧ ∀ k j, ¬ (k = T + 3 ∧ j = n) → ¬ (k = T ∧ j = 5) → I' k j = I k j) := by
  obtain ⟨hT, hT1, hT2, hT3, hlt⟩ := id hTS
  refine x_CQ.of (M := xM_Tr_addCode) rfl (Nat.le_of_ble_eq_true rfl) ?_
  refine ex_st 1 (pc' := 1) (ls' := [(0, xr T), (1, xi cd)]) (st' := [xr T]) rfl ?_
  refine ex_gfi rfl (by omega) hT (by decide) (by decide) rfl ?_
  rw [hn]
  refine ex_st 1 (pc' := 6) (ls' := [(0, xr T), (1, xi cd)]) (st' := [xi 100, xi (↑n)]) rfl ?_
  refine ex_ic rfl (by constructor <;> omega) (by decide) (fun (h0 : (100 : Int) ≤ (↑n : Int)) => ?_) (fun (h0 : ¬ (100 : Int) ≤ (↑n : Int)) => ?_)
  · refine ex_retv rfl rfl ?_
    first | (exfalso; omega) | exact ⟨rfl, _, rfl, by simp [x_up], by simp [x_up, hn], fun k j h1 h2 => by simp only [x_up]; first | rw [if_neg (by omega), if_neg (by omega)] | (split <;> split <;> first | rfl | omega)⟩
  · refine ex_st 1 (pc' := 10) (ls' := [(0, xr T), (1, xi cd)]) (st' := [xr T]) rfl ?_
    refine ex_gfr rfl (by omega) hT (by decide) (by decide) rfl ?_
    refine ex_st 1 (pc' := 14) (ls' := [(0, xr T), (1, xi cd)]) (st' := [xr T, xr (T + 3)]) rfl ?_
    refine ex_gfi rfl (by omega) hT (by decide) (by decide) rfl ?_
    rw [hn]
    refine ex_st 1 (pc' := 18) (ls' := [(0, xr T), (1, xi cd)]) (st' := [xi cd, xi (↑n), xr (T + 3)]) rfl ?_
    refine ex_iast (j := n) rfl (by omega) hT3 (by omega) (by omega) (by decide) ?_
    refine ex_st 2 (pc' := 21) (ls' := [(0, xr T), (1, xi cd)]) (st' := [xr T, xr T]) rfl ?_
    refine ex_gfi rfl (by omega) hT (by decide) (by decide) rfl ?_
    refine ex_st 2 (pc' := 26) (ls' := [(0, xr T), (1, xi cd)]) (st' := [xi (((x_up I (T + 3) n cd) T 5) + 1), xr T]) rfl ?_
    refine ex_pfi rfl (by omega) hT (by decide) rfl (by decide) (fun h => by cases h) ?_
    refine ex_retv rfl rfl ?_
    first | (exfalso; omega) | exact ⟨rfl, _, rfl, by simp [x_up], by simp [x_up, hn], fun k j h1 h2 => by simp only [x_up]; first | rw [if_neg (by omega), if_neg (by omega)] | (split <;> split <;> first | rfl | omega)⟩
