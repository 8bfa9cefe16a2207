/-! more small ones -/
def sp_pos (f : Nat → Int) (j : Nat) : Bool := decide (0 < f j)

theorem lp_thingsDone {sc : List Int} {I : Nat → Nat → Int} {L : Nat → Nat → Int64} {W : Nat} (hW0 : xSH[W]? = some (7, 11, [some (W + 1), none, some (W + 2), some (W + 3), none, none, none, none, some (W + 4), some (W + 6), some (W + 8)])) (hW2 : xSH[W + 2]? = some (20, 5, [])) (hlt : W + 28 ≤ 85) {f : Nat → Int} (hf : ∀ j, j < 5 → I (W + 2) j = f j ∧ x_R (f j)) (i : Nat) (hi : i ≤ 5) : x_Ex sc 0 xM_W_thingsDone 4 [(2, xi (↑i)), (1, xi (sp_mask (sp_pos f) i)), (0, xr W)] [] (xSH, I, L) (fun r m' => r = some (xi (sp_mask (sp_pos f) 5)) ∧ m' = (xSH, I, L)) := by
  refine ex_st 2 (pc' := 6) (ls' := [(2, xi (↑i)), (1, xi (sp_mask (sp_pos f) i)), (0, xr W)]) (st' := [xi 5, xi (↑i)]) rfl ?_
  refine ex_ic rfl (by first | (constructor <;> omega) | (rw [(hf i (by omega)).1]; exact (hf i (by omega)).2)) (by decide) (fun (h0 : (5 : Int) ≤ (↑i : Int)) => ?_) (fun (h0 : ¬ (5 : Int) ≤ (↑i : Int)) => ?_)
  · refine ex_st 1 (pc' := 31) (ls' := [(2, xi (↑i)), (1, xi (sp_mask (sp_pos f) i)), (0, xr W)]) (st' := [xi (sp_mask (sp_pos f) i)]) rfl ?_
    refine ex_reti rfl rfl ?_
    exact ⟨by rw [show i = 5 by omega], rfl⟩
  · refine ex_st 1 (pc' := 10) (ls' := [(2, xi (↑i)), (1, xi (sp_mask (sp_pos f) i)), (0, xr W)]) (st' := [xr W]) rfl ?_
    refine ex_gfr rfl (by omega) hW0 (by decide) (by decide) rfl ?_
    refine ex_st 1 (pc' := 14) (ls' := [(2, xi (↑i)), (1, xi (sp_mask (sp_pos f) i)), (0, xr W)]) (st' := [xi (↑i), xr (W + 2)]) rfl ?_
    refine ex_iald (j := i) rfl (by omega) hW2 (by omega) (by omega) (by decide) ?_
    refine ex_if rfl (by first | (constructor <;> omega) | (rw [(hf i (by omega)).1]; exact (hf i (by omega)).2)) (fun (h1 : (I (W + 2) i) ≤ 0) => ?_) (fun (h1 : ¬ (I (W + 2) i) ≤ 0) => ?_)
    · refine ex_st 2 (pc' := 4) (ls' := [(2, xi ((↑i) + 1)), (1, xi (sp_mask (sp_pos f) i)), (0, xr W)]) (st' := []) rfl ?_
      have h9 := lp_thingsDone (sc := sc) (L := L) hW0 hW2 hlt hf (i + 1) (by omega)
      have h8 := (hf i (by omega)).1
      rw [show sp_mask (sp_pos f) (i + 1) = sp_mask (sp_pos f) i from by show _ + _ = _; rw [if_neg (by simp only [sp_pos, decide_eq_true_eq]; omega), Int.add_zero]] at h9
      exact h9
    · refine ex_st 8 (pc' := 4) (ls' := [(2, xi ((↑i) + 1)), (1, xi (z_or (sp_mask (sp_pos f) i) (z_shl 1 (↑i)))), (0, xr W)]) (st' := []) rfl ?_
      have h9 := lp_thingsDone (sc := sc) (L := L) hW0 hW2 hlt hf (i + 1) (by omega)
      have h8 := (hf i (by omega)).1
      rw [sp_mask_or _ (by omega)]
      rw [show sp_mask (sp_pos f) (i + 1) = sp_mask (sp_pos f) i + 2 ^ i from by show _ + _ = _; rw [if_pos (by simp only [sp_pos, decide_eq_true_eq]; omega)]] at h9
      exact h9
termination_by 5 - i
decreasing_by all_goals omega
theorem ct_W_thingsDone {sc : List Int} {I : Nat → Nat → Int} {L : Nat → Nat → Int64} {W : Nat} (hW0 : xSH[W]? = some (7, 11, [some (W + 1), none, some (W + 2), some (W + 3), none, none, none, none, some (W + 4), some (W + 6), some (W + 8)])) (hW2 : xSH[W + 2]? = some (20, 5, [])) (hlt : W + 28 ≤ 85) {f : Nat → Int} (hf : ∀ j, j < 5 → I (W + 2) j = f j ∧ x_R (f j)) : x_CE sc 1 xN_W_thingsDone [xr W] (xSH, I, L) (some (xi (sp_mask (sp_pos f) 5))) (xSH, I, L) := by
  refine x_CE.of (M := xM_W_thingsDone) rfl (Nat.le_of_ble_eq_true rfl) ?_
  refine ex_st 4 (pc' := 4) (ls' := [(2, xi 0), (1, xi 0), (0, xr W)]) (st' := []) rfl ?_
  exact lp_thingsDone hW0 hW2 hlt hf 0 (by omega)
theorem ct_Tp_holds {sc : List Int} {I : Nat → Nat → Int} {L : Nat → Nat → Int64} {A : Nat} (hA : xSH[A]? = some (5, 3, [none, none, some (A + 1)])) (hlt : A + 1 < 1000) (hs : x_R (I A 0)) : x_CE sc 1 xN_Tp_holds [xr A] (xSH, I, L) (some (xi (x_b (I A 0 ≠ -1)))) (xSH, I, L) := by
  refine x_CE.of (M := xM_Tp_holds) rfl (Nat.le_of_ble_eq_true rfl) ?_
  refine ex_st 1 (pc' := 1) (ls' := [(0, xr A)]) (st' := [xr A]) rfl ?_
  refine ex_gfi rfl (by omega) hA (by decide) (by decide) rfl ?_
  refine ex_st 1 (pc' := 5) (ls' := [(0, xr A)]) (st' := [xi (-1), xi (I A 0)]) rfl ?_
  refine ex_ic rfl (by first | assumption | (constructor <;> omega)) (by decide) (fun (h0 : (I A 0) = (-1)) => ?_) (fun (h0 : ¬ (I A 0) = (-1)) => ?_)
  · refine ex_st 1 (pc' := 13) (ls' := [(0, xr A)]) (st' := [xi 0]) rfl ?_
    refine ex_retz rfl (Or.inl rfl) rfl ?_
    exact ⟨by unfold x_b; first | rw [if_pos (by omega)] | rw [if_neg (by omega)], rfl⟩
  · refine ex_st 2 (pc' := 13) (ls' := [(0, xr A)]) (st' := [xi 1]) rfl ?_
    refine ex_retz rfl (Or.inr rfl) rfl ?_
    exact ⟨by unfold x_b; first | rw [if_pos (by omega)] | rw [if_neg (by omega)], rfl⟩
theorem ct_Tp_hasPlace {sc : List Int} {I : Nat → Nat → Int} {L : Nat → Nat → Int64} {A : Nat} (hA : xSH[A]? = some (5, 3, [none, none, some (A + 1)])) (hlt : A + 1 < 1000) {n : Nat} (hn : I A 1 = (n : Int)) (hn1 : n ≤ 60) {p : Int} (hp : x_R p) : x_CE sc 1 xN_Tp_hasPlace [xr A, xi p] (xSH, I, L) (some (xi (x_b (0 ≤ p ∧ p < n)))) (xSH, I, L) := by
  refine x_CE.of (M := xM_Tp_hasPlace) rfl (Nat.le_of_ble_eq_true rfl) ?_
  refine ex_st 1 (pc' := 1) (ls' := [(0, xr A), (1, xi p)]) (st' := [xi p]) rfl ?_
  refine ex_if rfl (by first | assumption | (constructor <;> omega)) (fun (h0 : p < 0) => ?_) (fun (h0 : ¬ p < 0) => ?_)
  · refine ex_st 1 (pc' := 17) (ls' := [(0, xr A), (1, xi p)]) (st' := [xi 0]) rfl ?_
    refine ex_retz rfl (Or.inl rfl) rfl ?_
    exact ⟨by unfold x_b; first | rw [if_pos (by omega)] | rw [if_neg (by omega)], rfl⟩
  · refine ex_st 2 (pc' := 6) (ls' := [(0, xr A), (1, xi p)]) (st' := [xr A, xi p]) rfl ?_
    refine ex_gfi rfl (by omega) hA (by decide) (by decide) rfl ?_
    refine ex_ic rfl (by first | assumption | (constructor <;> omega)) (by first | assumption | (constructor <;> omega)) (fun (h1 : (I A 1) ≤ p) => ?_) (fun (h1 : ¬ (I A 1) ≤ p) => ?_)
    · refine ex_st 1 (pc' := 17) (ls' := [(0, xr A), (1, xi p)]) (st' := [xi 0]) rfl ?_
      refine ex_retz rfl (Or.inl rfl) rfl ?_
      exact ⟨by unfold x_b; first | rw [if_pos (by omega)] | rw [if_neg (by omega)], rfl⟩
    · refine ex_st 2 (pc' := 17) (ls' := [(0, xr A), (1, xi p)]) (st' := [xi 1]) rfl ?_
      refine ex_retz rfl (Or.inr rfl) rfl ?_
      exact ⟨by unfold x_b; first | rw [if_pos (by omega)] | rw [if_neg (by omega)], rfl⟩
theorem ct_Tp_hasPlaces {sc : List Int} {I : Nat → Nat → Int} {L : Nat → Nat → Int64} {A : Nat} (hA : xSH[A]? = some (5, 3, [none, none, some (A + 1)])) (hlt : A + 1 < 1000) {n : Nat} (hn : I A 1 = (n : Int)) (hn1 : n ≤ 60) {p q : Int} (hp : x_R p) (hq : x_R q) : x_CE sc 1 xN_Tp_hasPlaces [xr A, xi p, xi q] (xSH, I, L) (some (xi (x_b (0 ≤ p ∧ 0 ≤ q ∧ p + q ≤ n)))) (xSH, I, L) := by
  refine x_CE.of (M := xM_Tp_hasPlaces) rfl (Nat.le_of_ble_eq_true rfl) ?_
  refine ex_st 1 (pc' := 1) (ls' := [(0, xr A), (1, xi p), (2, xi q)]) (st' := [xi p]) rfl ?_
  refine ex_if rfl (by first | assumption | (constructor <;> omega)) (fun (h0 : p < 0) => ?_) (fun (h0 : ¬ p < 0) => ?_)
  · refine ex_st 1 (pc' := 31) (ls' := [(0, xr A), (1, xi p), (2, xi q)]) (st' := [xi 0]) rfl ?_
    refine ex_retz rfl (Or.inl rfl) rfl ?_
    exact ⟨by unfold x_b; first | rw [if_pos (by omega)] | rw [if_neg (by omega)], rfl⟩
  · refine ex_st 1 (pc' := 5) (ls' := [(0, xr A), (1, xi p), (2, xi q)]) (st' := [xi q]) rfl ?_
    refine ex_if rfl (by first | assumption | (constructor <;> omega)) (fun (h1 : q < 0) => ?_) (fun (h1 : ¬ q < 0) => ?_)
    · refine ex_st 1 (pc' := 31) (ls' := [(0, xr A), (1, xi p), (2, xi q)]) (st' := [xi 0]) rfl ?_
      refine ex_retz rfl (Or.inl rfl) rfl ?_
      exact ⟨by unfold x_b; first | rw [if_pos (by omega)] | rw [if_neg (by omega)], rfl⟩
    · refine ex_st 2 (pc' := 10) (ls' := [(0, xr A), (1, xi p), (2, xi q)]) (st' := [xr A, xi p]) rfl ?_
      refine ex_gfi rfl (by omega) hA (by decide) (by decide) rfl ?_
      refine ex_ic rfl (by first | assumption | (constructor <;> omega)) (by first | assumption | (constructor <;> omega)) (fun (h2 : (I A 1) < p) => ?_) (fun (h2 : ¬ (I A 1) < p) => ?_)
      · refine ex_st 1 (pc' := 31) (ls' := [(0, xr A), (1, xi p), (2, xi q)]) (st' := [xi 0]) rfl ?_
        refine ex_retz rfl (Or.inl rfl) rfl ?_
        exact ⟨by unfold x_b; first | rw [if_pos (by omega)] | rw [if_neg (by omega)], rfl⟩
      · refine ex_st 2 (pc' := 18) (ls' := [(0, xr A), (1, xi p), (2, xi q)]) (st' := [xr A, xi q]) rfl ?_
        refine ex_gfi rfl (by omega) hA (by decide) (by decide) rfl ?_
        refine ex_st 2 (pc' := 23) (ls' := [(0, xr A), (1, xi p), (2, xi q)]) (st' := [xi ((I A 1) - p), xi q]) rfl ?_
        refine ex_ic rfl (by first | assumption | (constructor <;> omega)) (by first | assumption | (constructor <;> omega)) (fun (h3 : (I A 1) - p < q) => ?_) (fun (h3 : ¬ (I A 1) - p < q) => ?_)
        · refine ex_st 1 (pc' := 31) (ls' := [(0, xr A), (1, xi p), (2, xi q)]) (st' := [xi 0]) rfl ?_
          refine ex_retz rfl (Or.inl rfl) rfl ?_
          exact ⟨by unfold x_b; first | rw [if_pos (by omega)] | rw [if_neg (by omega)], rfl⟩
        · refine ex_st 2 (pc' := 31) (ls' := [(0, xr A), (1, xi p), (2, xi q)]) (st' := [xi 1]) rfl ?_
          refine ex_retz rfl (Or.inr rfl) rfl ?_
          exact ⟨by unfold x_b; first | rw [if_pos (by omega)] | rw [if_neg (by omega)], rfl⟩
