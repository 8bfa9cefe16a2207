theorem ct_G_isOfficial {sc : List Int} {I : Nat → Nat → Int} {L : Nat → Nat → Int64} {t : Int} (ht : x_R t) (hc : 0 ≤ I 1 1 ∧ I 1 1 ≤ 6) : x_CE sc 1 xN_G_isOfficial [xr 0, xi t] (xSH, I, L) (some (xi (x_b (0 ≤ t ∧ t < I 1 1)))) (xSH, I, L) := by
  refine x_CE.of (M := xM_G_isOfficial) rfl (Nat.le_of_ble_eq_true rfl) ?_
  refine ex_st 1 (pc' := 1) (ls' := [(0, xr 0), (1, xi t)]) (st' := [xi t]) rfl ?_
  refine ex_if rfl (by constructor <;> omega) (fun (h0 : t < 0) => ?_) (fun (h0 : ¬ t < 0) => ?_)
  · refine ex_st 1 (pc' := 20) (ls' := [(0, xr 0), (1, xi t)]) (st' := [xi 0]) rfl ?_
    refine ex_retz rfl (Or.inl rfl) rfl ?_
    exact ⟨by unfold x_b; first | rw [if_pos (by omega)] | rw [if_neg (by omega)], rfl⟩
  · refine ex_st 4 (pc' := 12) (ls' := [(0, xr 0), (1, xi t)]) (st' := [xi (I 1 1), xi t]) rfl ?_
    refine ex_ic rfl (by constructor <;> omega) (by constructor <;> omega) (fun (h1 : (I 1 1) ≤ t) => ?_) (fun (h1 : ¬ (I 1 1) ≤ t) => ?_)
    · refine ex_st 1 (pc' := 20) (ls' := [(0, xr 0), (1, xi t)]) (st' := [xi 0]) rfl ?_
      refine ex_retz rfl (Or.inl rfl) rfl ?_
      exact ⟨by unfold x_b; first | rw [if_pos (by omega)] | rw [if_neg (by omega)], rfl⟩
    · refine ex_st 2 (pc' := 20) (ls' := [(0, xr 0), (1, xi t)]) (st' := [xi 1]) rfl ?_
      refine ex_retz rfl (Or.inr rfl) rfl ?_
      exact ⟨by unfold x_b; first | rw [if_pos (by omega)] | rw [if_neg (by omega)], rfl⟩
theorem ct_m_isOfficial {sc : List Int} {I : Nat → Nat → Int} {L : Nat → Nat → Int64} {t : Int} (ht : x_R t) (hc : 0 ≤ I 143 0 ∧ I 143 0 ≤ 6) : x_CE sc 2 xN_m_isOfficial [xr 143, xi t] (xSH, I, L) (some (xi (x_b (0 ≤ t ∧ t ≤ I 143 0 - 1)))) (xSH, I, L) := by
  refine x_CE.of (M := xM_m_isOfficial) rfl (Nat.le_of_ble_eq_true rfl) ?_
  refine ex_st 7 (pc' := 9) (ls' := [(0, xr 143), (1, xi t)]) (st' := [xi ((I 143 0) - 1), xi 0, xi t, xr 143]) rfl ?_
  refine ex_call (ct_m_in (by first | omega | (constructor <;> omega) | assumption) (by first | omega | (constructor <;> omega) | assumption) (by first | omega | (constructor <;> omega) | assumption)) (by decide) rfl ⟨rfl, rfl, rfl⟩ ⟨Nat.le_of_ble_eq_true rfl, rfl, rfl⟩ (Nat.le_of_ble_eq_true rfl) rfl ?_
  refine ex_retz rfl (x_b01 _) rfl ?_
  exact ⟨rfl, rfl⟩
theorem ct_m_isThing {sc : List Int} {I : Nat → Nat → Int} {L : Nat → Nat → Int64} {t : Int} (ht : x_R t) : x_CE sc 2 xN_m_isThing [xr 143, xi t] (xSH, I, L) (some (xi (x_b (0 ≤ t ∧ t ≤ 4)))) (xSH, I, L) := by
  refine x_CE.of (M := xM_m_isThing) rfl (Nat.le_of_ble_eq_true rfl) ?_
  refine ex_st 4 (pc' := 4) (ls' := [(0, xr 143), (1, xi t)]) (st' := [xi 4, xi 0, xi t, xr 143]) rfl ?_
  refine ex_call (ct_m_in (by first | omega | (constructor <;> omega) | assumption) (by first | omega | (constructor <;> omega) | assumption) (by first | omega | (constructor <;> omega) | assumption)) (by decide) rfl ⟨rfl, rfl, rfl⟩ ⟨Nat.le_of_ble_eq_true rfl, rfl, rfl⟩ (Nat.le_of_ble_eq_true rfl) rfl ?_
  refine ex_retz rfl (x_b01 _) rfl ?_
  exact ⟨rfl, rfl⟩
theorem ct_m_isDigitNumber {sc : List Int} {I : Nat → Nat → Int} {L : Nat → Nat → Int64} {t : Int} (ht : x_R t) : x_CE sc 2 xN_m_isDigitNumber [xr 143, xi t] (xSH, I, L) (some (xi (x_b (0 ≤ t ∧ t ≤ 9)))) (xSH, I, L) := by
  refine x_CE.of (M := xM_m_isDigitNumber) rfl (Nat.le_of_ble_eq_true rfl) ?_
  refine ex_st 4 (pc' := 5) (ls' := [(0, xr 143), (1, xi t)]) (st' := [xi 9, xi 0, xi t, xr 143]) rfl ?_
  refine ex_call (ct_m_in (by first | omega | (constructor <;> omega) | assumption) (by first | omega | (constructor <;> omega) | assumption) (by first | omega | (constructor <;> omega) | assumption)) (by decide) rfl ⟨rfl, rfl, rfl⟩ ⟨Nat.le_of_ble_eq_true rfl, rfl, rfl⟩ (Nat.le_of_ble_eq_true rfl) rfl ?_
  refine ex_retz rfl (x_b01 _) rfl ?_
  exact ⟨rfl, rfl⟩
theorem ct_m_isSessions {sc : List Int} {I : Nat → Nat → Int} {L : Nat → Nat → Int64} {t : Int} (ht : x_R t) : x_CE sc 2 xN_m_isSessions [xr 143, xi t] (xSH, I, L) (some (xi (x_b (0 ≤ t ∧ t ≤ 60)))) (xSH, I, L) := by
  refine x_CE.of (M := xM_m_isSessions) rfl (Nat.le_of_ble_eq_true rfl) ?_
  refine ex_st 4 (pc' := 5) (ls' := [(0, xr 143), (1, xi t)]) (st' := [xi 60, xi 0, xi t, xr 143]) rfl ?_
  refine ex_call (ct_m_in (by first | omega | (constructor <;> omega) | assumption) (by first | omega | (constructor <;> omega) | assumption) (by first | omega | (constructor <;> omega) | assumption)) (by decide) rfl ⟨rfl, rfl, rfl⟩ ⟨Nat.le_of_ble_eq_true rfl, rfl, rfl⟩ (Nat.le_of_ble_eq_true rfl) rfl ?_
  refine ex_retz rfl (x_b01 _) rfl ?_
  exact ⟨rfl, rfl⟩
theorem ct_m_isTape {sc : List Int} {I : Nat → Nat → Int} {L : Nat → Nat → Int64} {t : Int} (ht : x_R t) : x_CE sc 2 xN_m_isTape [xr 143, xi t] (xSH, I, L) (some (xi (x_b (0 ≤ t ∧ t ≤ 5)))) (xSH, I, L) := by
  refine x_CE.of (M := xM_m_isTape) rfl (Nat.le_of_ble_eq_true rfl) ?_
  refine ex_st 4 (pc' := 4) (ls' := [(0, xr 143), (1, xi t)]) (st' := [xi 5, xi 0, xi t, xr 143]) rfl ?_
  refine ex_call (ct_m_in (by first | omega | (constructor <;> omega) | assumption) (by first | omega | (constructor <;> omega) | assumption) (by first | omega | (constructor <;> omega) | assumption)) (by decide) rfl ⟨rfl, rfl, rfl⟩ ⟨Nat.le_of_ble_eq_true rfl, rfl, rfl⟩ (Nat.le_of_ble_eq_true rfl) rfl ?_
  refine ex_retz rfl (x_b01 _) rfl ?_
  exact ⟨rfl, rfl⟩
theorem ct_O_start {sc : List Int} {I : Nat → Nat → Int} {L : Nat → Nat → Int64} {O : Nat} {k v w : Int} (hO : xSH[O]? = some (2, 6, [none, none, none, none, some (O + 1), some (O + 2)])) (hO1 : xSH[O + 1]? = some (20, 5, [])) (hO2 : xSH[O + 2]? = some (20, 4, [])) (hlt : O + 2 < 1000) : x_CQ sc 1 xN_O_start [xr O, xi k, xi v, xi w] (xSH, I, L) (fun r m' => r = none ∧ ∃ I', m' = (xSH, I', L) ∧ I' O 0 = k ∧ I' O 1 = v ∧ I' O 2 = w ∧ I' O 3 = 0 ∧ (∀ x, x < 5 → I' (O + 1) x = 5) ∧ (∀ x, x < 4 → I' (O + 2) x = 0) ∧ ∀ a b, a ≠ O → a ≠ O + 1 → a ≠ O + 2 → I' a b = I a b) := by
  refine x_CQ.of (M := xM_O_start) rfl (Nat.le_of_ble_eq_true rfl) ?_
  refine ex_st 2 (pc' := 2) (ls' := [(0, xr O), (1, xi k), (2, xi v), (3, xi w)]) (st' := [xi k, xr O]) rfl ?_
  refine ex_pfi rfl (by omega) hO (by decide) rfl (by decide) (fun h => by cases h) ?_
  refine ex_st 2 (pc' := 7) (ls' := [(0, xr O), (1, xi k), (2, xi v), (3, xi w)]) (st' := [xi v, xr O]) rfl ?_
  refine ex_pfi rfl (by omega) hO (by decide) rfl (by decide) (fun h => by cases h) ?_
  refine ex_st 2 (pc' := 12) (ls' := [(0, xr O), (1, xi k), (2, xi v), (3, xi w)]) (st' := [xi w, xr O]) rfl ?_
  refine ex_pfi rfl (by omega) hO (by decide) rfl (by decide) (fun h => by cases h) ?_
  refine ex_st 2 (pc' := 17) (ls' := [(0, xr O), (1, xi k), (2, xi v), (3, xi w)]) (st' := [xi 0, xr O]) rfl ?_
  refine ex_pfi rfl (by omega) hO (by decide) rfl (by decide) (fun _ => by first | exact x_b01 _ | simp | omega) ?_
  refine ex_st 4 (pc' := 26) (ls' := [(4, xi 0), (0, xr O), (1, xi k), (2, xi v), (3, xi w)]) (st' := [xi 5, xi 0]) rfl ?_
  refine ex_st 1 (pc' := 29) (ls' := [(4, xi 0), (0, xr O), (1, xi k), (2, xi v), (3, xi w)]) (st' := []) rfl ?_
  refine ex_st 1 (pc' := 30) (ls' := [(4, xi 0), (0, xr O), (1, xi k), (2, xi v), (3, xi w)]) (st' := [xr O]) rfl ?_
  refine ex_gfr rfl (by omega) hO (by decide) (by decide) rfl ?_
  refine ex_st 2 (pc' := 36) (ls' := [(4, xi 0), (0, xr O), (1, xi k), (2, xi v), (3, xi w)]) (st' := [xi 5, xi 0, xr (O + 1)]) rfl ?_
  refine ex_iast (j := 0) rfl (by omega) hO1 (by decide) (by decide) (by decide) ?_
  refine ex_st 4 (pc' := 26) (ls' := [(4, xi 1), (0, xr O), (1, xi k), (2, xi v), (3, xi w)]) (st' := [xi 5, xi 1]) rfl ?_
  refine ex_st 1 (pc' := 29) (ls' := [(4, xi 1), (0, xr O), (1, xi k), (2, xi v), (3, xi w)]) (st' := []) rfl ?_
  refine ex_st 1 (pc' := 30) (ls' := [(4, xi 1), (0, xr O), (1, xi k), (2, xi v), (3, xi w)]) (st' := [xr O]) rfl ?_
  refine ex_gfr rfl (by omega) hO (by decide) (by decide) rfl ?_
  refine ex_st 2 (pc' := 36) (ls' := [(4, xi 1), (0, xr O), (1, xi k), (2, xi v), (3, xi w)]) (st' := [xi 5, xi 1, xr (O + 1)]) rfl ?_
  refine ex_iast (j := 1) rfl (by omega) hO1 (by decide) (by decide) (by decide) ?_
  refine ex_st 4 (pc' := 26) (ls' := [(4, xi 2), (0, xr O), (1, xi k), (2, xi v), (3, xi w)]) (st' := [xi 5, xi 2]) rfl ?_
  refine ex_st 1 (pc' := 29) (ls' := [(4, xi 2), (0, xr O), (1, xi k), (2, xi v), (3, xi w)]) (st' := []) rfl ?_
  refine ex_st 1 (pc' := 30) (ls' := [(4, xi 2), (0, xr O), (1, xi k), (2, xi v), (3, xi w)]) (st' := [xr O]) rfl ?_
  refine ex_gfr rfl (by omega) hO (by decide) (by decide) rfl ?_
  refine ex_st 2 (pc' := 36) (ls' := [(4, xi 2), (0, xr O), (1, xi k), (2, xi v), (3, xi w)]) (st' := [xi 5, xi 2, xr (O + 1)]) rfl ?_
  refine ex_iast (j := 2) rfl (by omega) hO1 (by decide) (by decide) (by decide) ?_
  refine ex_st 4 (pc' := 26) (ls' := [(4, xi 3), (0, xr O), (1, xi k), (2, xi v), (3, xi w)]) (st' := [xi 5, xi 3]) rfl ?_
  refine ex_st 1 (pc' := 29) (ls' := [(4, xi 3), (0, xr O), (1, xi k), (2, xi v), (3, xi w)]) (st' := []) rfl ?_
  refine ex_st 1 (pc' := 30) (ls' := [(4, xi 3), (0, xr O), (1, xi k), (2, xi v), (3, xi w)]) (st' := [xr O]) rfl ?_
  refine ex_gfr rfl (by omega) hO (by decide) (by decide) rfl ?_
  refine ex_st 2 (pc' := 36) (ls' := [(4, xi 3), (0, xr O), (1, xi k), (2, xi v), (3, xi w)]) (st' := [xi 5, xi 3, xr (O + 1)]) rfl ?_
  refine ex_iast (j := 3) rfl (by omega) hO1 (by decide) (by decide) (by decide) ?_
  refine ex_st 4 (pc' := 26) (ls' := [(4, xi 4), (0, xr O), (1, xi k), (2, xi v), (3, xi w)]) (st' := [xi 5, xi 4]) rfl ?_
  refine ex_st 1 (pc' := 29) (ls' := [(4, xi 4), (0, xr O), (1, xi k), (2, xi v), (3, xi w)]) (st' := []) rfl ?_
  refine ex_st 1 (pc' := 30) (ls' := [(4, xi 4), (0, xr O), (1, xi k), (2, xi v), (3, xi w)]) (st' := [xr O]) rfl ?_
  refine ex_gfr rfl (by omega) hO (by decide) (by decide) rfl ?_
  refine ex_st 2 (pc' := 36) (ls' := [(4, xi 4), (0, xr O), (1, xi k), (2, xi v), (3, xi w)]) (st' := [xi 5, xi 4, xr (O + 1)]) rfl ?_
  refine ex_iast (j := 4) rfl (by omega) hO1 (by decide) (by decide) (by decide) ?_
  refine ex_st 4 (pc' := 26) (ls' := [(4, xi 5), (0, xr O), (1, xi k), (2, xi v), (3, xi w)]) (st' := [xi 5, xi 5]) rfl ?_
  refine ex_st 1 (pc' := 43) (ls' := [(4, xi 5), (0, xr O), (1, xi k), (2, xi v), (3, xi w)]) (st' := []) rfl ?_
  refine ex_st 4 (pc' := 49) (ls' := [(4, xi 0), (0, xr O), (1, xi k), (2, xi v), (3, xi w)]) (st' := [xi 4, xi 0]) rfl ?_
  refine ex_st 1 (pc' := 52) (ls' := [(4, xi 0), (0, xr O), (1, xi k), (2, xi v), (3, xi w)]) (st' := []) rfl ?_
  refine ex_st 1 (pc' := 53) (ls' := [(4, xi 0), (0, xr O), (1, xi k), (2, xi v), (3, xi w)]) (st' := [xr O]) rfl ?_
  refine ex_gfr rfl (by omega) hO (by decide) (by decide) rfl ?_
  refine ex_st 2 (pc' := 59) (ls' := [(4, xi 0), (0, xr O), (1, xi k), (2, xi v), (3, xi w)]) (st' := [xi 0, xi 0, xr (O + 2)]) rfl ?_
  refine ex_iast (j := 0) rfl (by omega) hO2 (by decide) (by decide) (by decide) ?_
  refine ex_st 4 (pc' := 49) (ls' := [(4, xi 1), (0, xr O), (1, xi k), (2, xi v), (3, xi w)]) (st' := [xi 4, xi 1]) rfl ?_
  refine ex_st 1 (pc' := 52) (ls' := [(4, xi 1), (0, xr O), (1, xi k), (2, xi v), (3, xi w)]) (st' := []) rfl ?_
  refine ex_st 1 (pc' := 53) (ls' := [(4, xi 1), (0, xr O), (1, xi k), (2, xi v), (3, xi w)]) (st' := [xr O]) rfl ?_
  refine ex_gfr rfl (by omega) hO (by decide) (by decide) rfl ?_
  refine ex_st 2 (pc' := 59) (ls' := [(4, xi 1), (0, xr O), (1, xi k), (2, xi v), (3, xi w)]) (st' := [xi 0, xi 1, xr (O + 2)]) rfl ?_
  refine ex_iast (j := 1) rfl (by omega) hO2 (by decide) (by decide) (by decide) ?_
  refine ex_st 4 (pc' := 49) (ls' := [(4, xi 2), (0, xr O), (1, xi k), (2, xi v), (3, xi w)]) (st' := [xi 4, xi 2]) rfl ?_
  refine ex_st 1 (pc' := 52) (ls' := [(4, xi 2), (0, xr O), (1, xi k), (2, xi v), (3, xi w)]) (st' := []) rfl ?_
  refine ex_st 1 (pc' := 53) (ls' := [(4, xi 2), (0, xr O), (1, xi k), (2, xi v), (3, xi w)]) (st' := [xr O]) rfl ?_
  refine ex_gfr rfl (by omega) hO (by decide) (by decide) rfl ?_
  refine ex_st 2 (pc' := 59) (ls' := [(4, xi 2), (0, xr O), (1, xi k), (2, xi v), (3, xi w)]) (st' := [xi 0, xi 2, xr (O + 2)]) rfl ?_
  refine ex_iast (j := 2) rfl (by omega) hO2 (by decide) (by decide) (by decide) ?_
  refine ex_st 4 (pc' := 49) (ls' := [(4, xi 3), (0, xr O), (1, xi k), (2, xi v), (3, xi w)]) (st' := [xi 4, xi 3]) rfl ?_
  refine ex_st 1 (pc' := 52) (ls' := [(4, xi 3), (0, xr O), (1, xi k), (2, xi v), (3, xi w)]) (st' := []) rfl ?_
  refine ex_st 1 (pc' := 53) (ls' := [(4, xi 3), (0, xr O), (1, xi k), (2, xi v), (3, xi w)]) (st' := [xr O]) rfl ?_
  refine ex_gfr rfl (by omega) hO (by decide) (by decide) rfl ?_
  refine ex_st 2 (pc' := 59) (ls' := [(4, xi 3), (0, xr O), (1, xi k), (2, xi v), (3, xi w)]) (st' := [xi 0, xi 3, xr (O + 2)]) rfl ?_
  refine ex_iast (j := 3) rfl (by omega) hO2 (by decide) (by decide) (by decide) ?_
  refine ex_st 4 (pc' := 49) (ls' := [(4, xi 4), (0, xr O), (1, xi k), (2, xi v), (3, xi w)]) (st' := [xi 4, xi 4]) rfl ?_
  refine ex_st 1 (pc' := 66) (ls' := [(4, xi 4), (0, xr O), (1, xi k), (2, xi v), (3, xi w)]) (st' := []) rfl ?_
  refine ex_retv rfl rfl ?_
  refine ⟨rfl, _, rfl, by simp [x_up], by simp [x_up], by simp [x_up], by simp [x_up], fun x hx => ?_, fun x hx => ?_, fun a b h1 h2 h3 => by simp [x_up, h1, h2, h3]⟩
  · rcases (show x = 0 ∨ x = 1 ∨ x = 2 ∨ x = 3 ∨ x = 4 by omega) with rfl | rfl | rfl | rfl | rfl <;> simp [x_up]
  · rcases (show x = 0 ∨ x = 1 ∨ x = 2 ∨ x = 3 by omega) with rfl | rfl | rfl | rfl <;> simp [x_up]
