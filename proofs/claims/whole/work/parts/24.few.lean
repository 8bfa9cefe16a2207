/-! small ones -/
theorem ct_Tr_clear {sc : List Int} {I : Nat → Nat → Int} {L : Nat → Nat → Int64} {T : Nat} (hTS : TS T) : x_CE sc 1 xN_Tr_clear [xr T] (xSH, I, L) none (xSH, x_up (x_up (x_up I T 0 0) T 1 0) T 5 0, L) := by
  obtain ⟨hT, hT1, hT2, hT3, hlt⟩ := id hTS
  refine x_CE.of (M := xM_Tr_clear) rfl (Nat.le_of_ble_eq_true rfl) ?_
  refine ex_st 2 (pc' := 2) (ls' := [(0, xr T)]) (st' := [xi 0, xr T]) rfl ?_
  refine ex_pfi rfl (by omega) hT (by decide) rfl (by decide) (fun h => by cases h) ?_
  refine ex_st 2 (pc' := 7) (ls' := [(0, xr T)]) (st' := [xi 0, xr T]) rfl ?_
  refine ex_pfi rfl (by omega) hT (by decide) rfl (by decide) (fun h => by cases h) ?_
  refine ex_st 2 (pc' := 12) (ls' := [(0, xr T)]) (st' := [xi 0, xr T]) rfl ?_
  refine ex_pfi rfl (by omega) hT (by decide) rfl (by decide) (fun h => by cases h) ?_
  refine ex_retv rfl rfl ?_
  exact ⟨rfl, rfl⟩
theorem ct_Tr_testCode {sc : List Int} {I : Nat → Nat → Int} {L : Nat → Nat → Int64} {a b d : Int} : x_CE sc 1 xN_Tr_testCode [xi a, xi b, xi d] (xSH, I, L) (some (xi ((a * 3 + b) * 100 + d))) (xSH, I, L) := by
  refine x_CE.of (M := xM_Tr_testCode) rfl (Nat.le_of_ble_eq_true rfl) ?_
  refine ex_st 9 (pc' := 10) (ls' := [(0, xi a), (1, xi b), (2, xi d)]) (st' := [xi ((((a * 3) + b) * 100) + d)]) rfl ?_
  refine ex_reti rfl rfl ?_
  exact ⟨rfl, rfl⟩
theorem ct_Tr_addCode {sc : List Int} {I : Nat → Nat → Int} {L : Nat → Nat → Int64} {T : Nat} (hTS : TS T) {n : Nat} (hn : I T 5 = (n : Int)) (hn1 : n < 100) {cd : Int} : x_CQ sc 1 xN_Tr_addCode [xr T, xi cd] (xSH, I, L) (fun r m' => r = none ∧ ∃ I', m' = (xSH, I', L) ∧ I' (T + 3) n = cd ∧ I' T 5 = ((n : Int) + 1) ∧ ∀ k j, ¬ (k = T + 3 ∧ j = n) → ¬ (k = T ∧ j = 5) → I' k j = I k j) := by
  obtain ⟨hT, hT1, hT2, hT3, hlt⟩ := id hTS
  refine x_CQ.of (M := xM_Tr_addCode) rfl (Nat.le_of_ble_eq_true rfl) ?_
  refine ex_st 1 (pc' := 1) (ls' := [(0, xr T), (1, xi cd)]) (st' := [xr T]) rfl ?_
  refine ex_gfi rfl (by omega) hT (by decide) (by decide) rfl ?_
  rw [hn]
  refine ex_st 1 (pc' := 6) (ls' := [(0, xr T), (1, xi cd)]) (st' := [xi 100, xi (↑n)]) rfl ?_
  refine ex_ic rfl (by constructor <;> omega) (by decide) (fun (h0 : (100 : Int) ≤ (↑n : Int)) => ?_) (fun (h0 : ¬ (100 : Int) ≤ (↑n : Int)) => ?_)
  · refine ex_retv rfl rfl ?_
    first | (exfalso; omega) | exact ⟨rfl, _, rfl, by simp [x_up], by simp [x_up, hn], fun k j h1 h2 => by simp only [x_up]; first | rw [if_neg (by omega), if_neg (by omega)] | (split <;> split <;> first | rfl | omega)⟩
  · refine ex_st 1 (pc' := 10) (ls' := [(0, xr T), (1, xi cd)]) (st' := [xr T]) rfl ?_
    refine ex_gfr rfl (by omega) hT (by decide) (by decide) rfl ?_
    refine ex_st 1 (pc' := 14) (ls' := [(0, xr T), (1, xi cd)]) (st' := [xr T, xr (T + 3)]) rfl ?_
    refine ex_gfi rfl (by omega) hT (by decide) (by decide) rfl ?_
    rw [hn]
    refine ex_st 1 (pc' := 18) (ls' := [(0, xr T), (1, xi cd)]) (st' := [xi cd, xi (↑n), xr (T + 3)]) rfl ?_
    refine ex_iast (j := n) rfl (by omega) hT3 (by omega) (by omega) (by decide) ?_
    refine ex_st 2 (pc' := 21) (ls' := [(0, xr T), (1, xi cd)]) (st' := [xr T, xr T]) rfl ?_
    refine ex_gfi rfl (by omega) hT (by decide) (by decide) rfl ?_
    refine ex_st 2 (pc' := 26) (ls' := [(0, xr T), (1, xi cd)]) (st' := [xi (((x_up I (T + 3) n cd) T 5) + 1), xr T]) rfl ?_
    refine ex_pfi rfl (by omega) hT (by decide) rfl (by decide) (fun h => by cases h) ?_
    refine ex_retv rfl rfl ?_
    first | (exfalso; omega) | exact ⟨rfl, _, rfl, by simp [x_up], by simp [x_up, hn], fun k j h1 h2 => by simp only [x_up]; first | rw [if_neg (by omega), if_neg (by omega)] | (split <;> split <;> first | rfl | omega)⟩
theorem ct_Tr_endClause {sc : List Int} {I : Nat → Nat → Int} {L : Nat → Nat → Int64} {T : Nat} (hTS : TS T) {n c : Nat} (hn : I T 5 = (n : Int)) (hc : I T 1 = (c : Int)) (hc1 : c < 10) {we : Int} : x_CQ sc 1 xN_Tr_endClause [xr T, xi we] (xSH, I, L) (fun r m' => r = none ∧ ∃ I', m' = (xSH, I', L) ∧ I' (T + 1) c = we ∧ I' (T + 2) c = (n : Int) ∧ I' T 1 = ((c : Int) + 1) ∧ ∀ k j, ¬ (k = T + 1 ∧ j = c) → ¬ (k = T + 2 ∧ j = c) → ¬ (k = T ∧ j = 1) → I' k j = I k j) := by
  obtain ⟨hT, hT1, hT2, hT3, hlt⟩ := id hTS
  refine x_CQ.of (M := xM_Tr_endClause) rfl (Nat.le_of_ble_eq_true rfl) ?_
  refine ex_st 1 (pc' := 1) (ls' := [(0, xr T), (1, xi we)]) (st' := [xr T]) rfl ?_
  refine ex_gfi rfl (by omega) hT (by decide) (by decide) rfl ?_
  rw [hc]
  refine ex_st 1 (pc' := 6) (ls' := [(0, xr T), (1, xi we)]) (st' := [xi 10, xi (↑c)]) rfl ?_
  refine ex_ic rfl (by constructor <;> omega) (by decide) (fun (h0 : (10 : Int) ≤ (↑c : Int)) => ?_) (fun (h0 : ¬ (10 : Int) ≤ (↑c : Int)) => ?_)
  · refine ex_retv rfl rfl ?_
    first | (exfalso; omega) | exact ⟨rfl, _, rfl, by simp [x_up], by simp [x_up], by simp [x_up, hc], fun k j h1 h2 h3 => by simp only [x_up]; repeat (first | rw [if_neg (by omega)] | (split <;> first | rfl | omega | skip))⟩
  · refine ex_st 1 (pc' := 10) (ls' := [(0, xr T), (1, xi we)]) (st' := [xr T]) rfl ?_
    refine ex_gfr rfl (by omega) hT (by decide) (by decide) rfl ?_
    refine ex_st 1 (pc' := 14) (ls' := [(0, xr T), (1, xi we)]) (st' := [xr T, xr (T + 1)]) rfl ?_
    refine ex_gfi rfl (by omega) hT (by decide) (by decide) rfl ?_
    rw [hc]
    refine ex_st 1 (pc' := 18) (ls' := [(0, xr T), (1, xi we)]) (st' := [xi we, xi (↑c), xr (T + 1)]) rfl ?_
    refine ex_iast (j := c) rfl (by omega) hT1 (by omega) (by omega) (by decide) ?_
    refine ex_st 1 (pc' := 20) (ls' := [(0, xr T), (1, xi we)]) (st' := [xr T]) rfl ?_
    refine ex_gfr rfl (by omega) hT (by decide) (by decide) rfl ?_
    refine ex_st 1 (pc' := 24) (ls' := [(0, xr T), (1, xi we)]) (st' := [xr T, xr (T + 2)]) rfl ?_
    refine ex_gfi rfl (by omega) hT (by decide) (by decide) rfl ?_
    rw [x_up_ne (show T ≠ T + 1 by omega), hc]
    refine ex_st 1 (pc' := 28) (ls' := [(0, xr T), (1, xi we)]) (st' := [xr T, xi (↑c), xr (T + 2)]) rfl ?_
    refine ex_gfi rfl (by omega) hT (by decide) (by decide) rfl ?_
    rw [x_up_ne (show T ≠ T + 1 by omega), hn]
    refine ex_iast (j := c) rfl (by omega) hT2 (by omega) (by omega) (by decide) ?_
    refine ex_st 2 (pc' := 34) (ls' := [(0, xr T), (1, xi we)]) (st' := [xr T, xr T]) rfl ?_
    refine ex_gfi rfl (by omega) hT (by decide) (by decide) rfl ?_
    refine ex_st 2 (pc' := 39) (ls' := [(0, xr T), (1, xi we)]) (st' := [xi (((x_up (x_up I (T + 1) c we) (T + 2) c (↑n)) T 1) + 1), xr T]) rfl ?_
    refine ex_pfi rfl (by omega) hT (by decide) rfl (by decide) (fun h => by cases h) ?_
    refine ex_retv rfl rfl ?_
    first | (exfalso; omega) | exact ⟨rfl, _, rfl, by simp [x_up], by simp [x_up], by simp [x_up, hc], fun k j h1 h2 h3 => by simp only [x_up]; repeat (first | rw [if_neg (by omega)] | (split <;> first | rfl | omega | skip))⟩
theorem ct_Rw_at {sc : List Int} {I : Nat → Nat → Int} {L : Nat → Nat → Int64} {A cap : Nat} (hA : xSH[A]? = some (4, 3, [none, some (A + 1), none])) (hA1 : xSH[A + 1]? = some (20, 4 * cap, [])) (hlt : A + 1 < 1000) (hcap : cap ≤ 10) {a b : Nat} (ha : a < cap) (hb : b < 4) : x_CE sc 1 xN_Rw_at [xr A, xi (↑a), xi (↑b)] (xSH, I, L) (some (xi (I (A + 1) (a * 4 + b)))) (xSH, I, L) := by
  refine x_CE.of (M := xM_Rw_at) rfl (Nat.le_of_ble_eq_true rfl) ?_
  refine ex_st 1 (pc' := 1) (ls' := [(0, xr A), (1, xi (↑a)), (2, xi (↑b))]) (st' := [xr A]) rfl ?_
  refine ex_gfr rfl (by omega) hA (by decide) (by decide) rfl ?_
  refine ex_st 5 (pc' := 9) (ls' := [(0, xr A), (1, xi (↑a)), (2, xi (↑b))]) (st' := [xi (((↑a) * 4) + (↑b)), xr (A + 1)]) rfl ?_
  refine ex_iald (j := (((a) * 4) + (b))) rfl (by omega) hA1 (by omega) (by omega) (by omega) ?_
  refine ex_reti rfl rfl ?_
  exact ⟨rfl, rfl⟩
theorem ct_Rw_add {sc : List Int} {I : Nat → Nat → Int} {L : Nat → Nat → Int64} {A cap : Nat} (hA : xSH[A]? = some (4, 3, [none, some (A + 1), none])) (hA1 : xSH[A + 1]? = some (20, 4 * cap, [])) (hlt : A + 1 < 1000) (hcap : cap ≤ 10) {n : Nat} (hn : I A 2 = (n : Int)) (hcp : I A 0 = (cap : Int)) (hn1 : n ≤ cap) {a b d e : Int} : x_CQ sc 1 xN_Rw_add [xr A, xi a, xi b, xi d, xi e] (xSH, I, L) (fun r m' => r = some (xi (x_b (n < cap))) ∧ ∃ I', m' = (xSH, I', L) ∧ (n < cap → I' (A + 1) (n * 4) = a ∧ I' (A + 1) (n * 4 + 1) = b ∧ I' (A + 1) (n * 4 + 2) = d ∧ I' (A + 1) (n * 4 + 3) = e ∧ I' A 2 = ((n + 1 : Nat) : Int)) ∧ ∀ k j, (¬ n < cap ∨ (¬ (k = A + 1 ∧ n * 4 ≤ j ∧ j < n * 4 + 4) ∧ ¬ (k = A ∧ j = 2))) → I' k j = I k j) := by
  refine x_CQ.of (M := xM_Rw_add) rfl (Nat.le_of_ble_eq_true rfl) ?_
  refine ex_st 1 (pc' := 1) (ls' := [(0, xr A), (1, xi a), (2, xi b), (3, xi d), (4, xi e)]) (st' := [xr A]) rfl ?_
  refine ex_gfi rfl (by omega) hA (by decide) (by decide) rfl ?_
  rw [hn]
  refine ex_st 1 (pc' := 5) (ls' := [(0, xr A), (1, xi a), (2, xi b), (3, xi d), (4, xi e)]) (st' := [xr A, xi (↑n)]) rfl ?_
  refine ex_gfi rfl (by omega) hA (by decide) (by decide) rfl ?_
  rw [hcp]
  refine ex_ic rfl (by constructor <;> omega) (by constructor <;> omega) (fun (h0 : (↑n : Int) < (↑cap : Int)) => ?_) (fun (h0 : ¬ (↑n : Int) < (↑cap : Int)) => ?_)
  · refine ex_st 1 (pc' := 14) (ls' := [(0, xr A), (1, xi a), (2, xi b), (3, xi d), (4, xi e)]) (st' := [xr A]) rfl ?_
    refine ex_gfr rfl (by omega) hA (by decide) (by decide) rfl ?_
    refine ex_st 1 (pc' := 18) (ls' := [(0, xr A), (1, xi a), (2, xi b), (3, xi d), (4, xi e)]) (st' := [xr A, xr (A + 1)]) rfl ?_
    refine ex_gfi rfl (by omega) hA (by decide) (by decide) rfl ?_
    rw [hn]
    refine ex_st 3 (pc' := 24) (ls' := [(0, xr A), (1, xi a), (2, xi b), (3, xi d), (4, xi e)]) (st' := [xi a, xi ((↑n) * 4), xr (A + 1)]) rfl ?_
    refine ex_iast (j := ((n) * 4)) rfl (by omega) hA1 (by omega) (by omega) (by omega) ?_
    refine ex_st 1 (pc' := 26) (ls' := [(0, xr A), (1, xi a), (2, xi b), (3, xi d), (4, xi e)]) (st' := [xr A]) rfl ?_
    refine ex_gfr rfl (by omega) hA (by decide) (by decide) rfl ?_
    refine ex_st 1 (pc' := 30) (ls' := [(0, xr A), (1, xi a), (2, xi b), (3, xi d), (4, xi e)]) (st' := [xr A, xr (A + 1)]) rfl ?_
    refine ex_gfi rfl (by omega) hA (by decide) (by decide) rfl ?_
    rw [x_up_ne (show A ≠ A + 1 by omega), hn]
    refine ex_st 5 (pc' := 38) (ls' := [(0, xr A), (1, xi a), (2, xi b), (3, xi d), (4, xi e)]) (st' := [xi b, xi (((↑n) * 4) + 1), xr (A + 1)]) rfl ?_
    refine ex_iast (j := (((n) * 4) + 1)) rfl (by omega) hA1 (by omega) (by omega) (by omega) ?_
    refine ex_st 1 (pc' := 40) (ls' := [(0, xr A), (1, xi a), (2, xi b), (3, xi d), (4, xi e)]) (st' := [xr A]) rfl ?_
    refine ex_gfr rfl (by omega) hA (by decide) (by decide) rfl ?_
    refine ex_st 1 (pc' := 44) (ls' := [(0, xr A), (1, xi a), (2, xi b), (3, xi d), (4, xi e)]) (st' := [xr A, xr (A + 1)]) rfl ?_
    refine ex_gfi rfl (by omega) hA (by decide) (by decide) rfl ?_
    rw [x_up_ne (show A ≠ A + 1 by omega), x_up_ne (show A ≠ A + 1 by omega), hn]
    refine ex_st 5 (pc' := 52) (ls' := [(0, xr A), (1, xi a), (2, xi b), (3, xi d), (4, xi e)]) (st' := [xi d, xi (((↑n) * 4) + 2), xr (A + 1)]) rfl ?_
    refine ex_iast (j := (((n) * 4) + 2)) rfl (by omega) hA1 (by omega) (by omega) (by omega) ?_
    refine ex_st 1 (pc' := 54) (ls' := [(0, xr A), (1, xi a), (2, xi b), (3, xi d), (4, xi e)]) (st' := [xr A]) rfl ?_
    refine ex_gfr rfl (by omega) hA (by decide) (by decide) rfl ?_
    refine ex_st 1 (pc' := 58) (ls' := [(0, xr A), (1, xi a), (2, xi b), (3, xi d), (4, xi e)]) (st' := [xr A, xr (A + 1)]) rfl ?_
    refine ex_gfi rfl (by omega) hA (by decide) (by decide) rfl ?_
    rw [x_up_ne (show A ≠ A + 1 by omega), x_up_ne (show A ≠ A + 1 by omega), x_up_ne (show A ≠ A + 1 by omega), hn]
    refine ex_st 5 (pc' := 67) (ls' := [(0, xr A), (1, xi a), (2, xi b), (3, xi d), (4, xi e)]) (st' := [xi e, xi (((↑n) * 4) + 3), xr (A + 1)]) rfl ?_
    refine ex_iast (j := (((n) * 4) + 3)) rfl (by omega) hA1 (by omega) (by omega) (by omega) ?_
    refine ex_st 2 (pc' := 70) (ls' := [(0, xr A), (1, xi a), (2, xi b), (3, xi d), (4, xi e)]) (st' := [xr A, xr A]) rfl ?_
    refine ex_gfi rfl (by omega) hA (by decide) (by decide) rfl ?_
    refine ex_st 2 (pc' := 75) (ls' := [(0, xr A), (1, xi a), (2, xi b), (3, xi d), (4, xi e)]) (st' := [xi (((x_up (x_up (x_up (x_up I (A + 1) ((n) * 4) a) (A + 1) (((n) * 4) + 1) b) (A + 1) (((n) * 4) + 2) d) (A + 1) (((n) * 4) + 3) e) A 2) + 1), xr A]) rfl ?_
    refine ex_pfi rfl (by omega) hA (by decide) rfl (by decide) (fun h => by cases h) ?_
    refine ex_st 1 (pc' := 79) (ls' := [(0, xr A), (1, xi a), (2, xi b), (3, xi d), (4, xi e)]) (st' := [xi 1]) rfl ?_
    refine ex_retz rfl (Or.inr rfl) rfl ?_
    exact ⟨by unfold x_b; rw [if_pos (by omega)], _, rfl, fun _ => ⟨by simp [x_up], by simp [x_up], by simp [x_up], by simp [x_up], by simp [x_up, hn]⟩, fun k j h1 => by simp only [x_up]; repeat (first | rw [if_neg (by omega)] | (split <;> first | rfl | omega | skip))⟩
  · refine ex_st 1 (pc' := 12) (ls' := [(0, xr A), (1, xi a), (2, xi b), (3, xi d), (4, xi e)]) (st' := [xi 0]) rfl ?_
    refine ex_retz rfl (Or.inl rfl) rfl ?_
    exact ⟨by unfold x_b; rw [if_neg (by omega)], I, rfl, fun h => absurd h (by omega), fun _ _ _ => rfl⟩
