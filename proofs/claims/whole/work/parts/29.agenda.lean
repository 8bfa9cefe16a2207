/-! a world's session and agenda -/
def sp_en1 (I : Nat → Nat → Int) (W : Nat) (x : Int) : Nat → Nat → Int := x_up I (W + 2) x.toNat (I (W + 2) x.toNat + 1)
def sp_en2 (I : Nat → Nat → Int) (W : Nat) (x : Int) : Nat → Nat → Int := if 0 ≤ x ∧ x < 5 then x_up (sp_en1 I W x) W 5 ((x + 3 + sp_en1 I W x W 5).tmod 10) else I
def sp_end (I : Nat → Nat → Int) (W : Nat) (x : Int) : Nat → Nat → Int := x_up (sp_en2 I W x) W 6 (sp_en2 I W x W 6 + 1)
/-- whether f has x below n -/
def sp_has (f : Nat → Int) (x : Int) : Nat → Bool
  | 0 => false
  | n + 1 => sp_has f x n || decide (f n = x)
theorem sp_has_yes {f : Nat → Int} {x : Int} {i : Nat} (h : f i = x) : ∀ n, i < n → sp_has f x n = true
  | n + 1, hn => by
    unfold sp_has
    by_cases e : i = n
    · subst e; simp [h]
    · rw [sp_has_yes h n (by omega)]; rfl

theorem ct_W_endSession {sc : List Int} {I : Nat → Nat → Int} {L : Nat → Nat → Int64} {W : Nat} (hWS : WS W) (hW2 : xSH[W + 2]? = some (20, 5, [])) {x : Int} (hx : x_R x) (he : 0 ≤ I W 5 ∧ I W 5 ≤ 99) : x_CQ sc 2 xN_W_endSession [xr W, xi x] (xSH, I, L) (fun r m' => r = none ∧ m' = (xSH, sp_end I W x, L)) := by
  have hw85 := hWS.2.2.2
  refine x_CQ.of (M := xM_W_endSession) rfl (Nat.le_of_ble_eq_true rfl) ?_
  refine ex_st 1 (pc' := 1) (ls' := [(0, xr W), (1, xi x)]) (st' := [xi x]) rfl ?_
  refine ex_call (ct_G_isThing (by first | omega | (constructor <;> omega) | assumption)) (by decide) rfl ⟨rfl, rfl, rfl⟩ ⟨Nat.le_of_ble_eq_true rfl, rfl, rfl⟩ (Nat.le_of_ble_eq_true rfl) rfl ?_
  refine ex_beq rfl (fun h0 => ?_) (fun h0 => ?_)
  · refine ex_st 2 (pc' := 34) (ls' := [(0, xr W), (1, xi x)]) (st' := [xr W, xr W]) rfl ?_
    refine ex_gfi rfl (by have := hWS.2.2.2; omega) hWS.1 (by decide) (by decide) rfl ?_
    refine ex_st 2 (pc' := 39) (ls' := [(0, xr W), (1, xi x)]) (st' := [xi ((I W 6) + 1), xr W]) rfl ?_
    refine ex_pfi rfl (by have := hWS.2.2.2; omega) hWS.1 (by decide) rfl (by decide) (fun h => by cases h) ?_
    refine ex_retv rfl rfl ?_
    exact ⟨rfl, by show _ = (xSH, x_up (sp_en2 I W x) W 6 (sp_en2 I W x W 6 + 1), L); rw [show sp_en2 I W x = I from by unfold sp_en2; rw [if_neg (by omega)]]; try rfl⟩
  · refine ex_st 1 (pc' := 8) (ls' := [(0, xr W), (1, xi x)]) (st' := [xr W]) rfl ?_
    refine ex_gfr rfl (by have := hWS.2.2.2; omega) hWS.1 (by decide) (by decide) rfl ?_
    refine ex_st 2 (pc' := 13) (ls' := [(0, xr W), (1, xi x)]) (st' := [xi x, xr (W + 2), xi x, xr (W + 2)]) rfl ?_
    refine ex_iald (j := x.toNat) rfl (by have := hWS.2.2.2; omega) hW2 (by omega) (by omega) (by decide) ?_
    refine ex_st 2 (pc' := 16) (ls' := [(0, xr W), (1, xi x)]) (st' := [xi ((I (W + 2) x.toNat) + 1), xi x, xr (W + 2)]) rfl ?_
    refine ex_iast (j := x.toNat) rfl (by have := hWS.2.2.2; omega) hW2 (by omega) (by omega) (by decide) ?_
    refine ex_st 5 (pc' := 22) (ls' := [(0, xr W), (1, xi x)]) (st' := [xr W, xi (x + 3), xr W]) rfl ?_
    refine ex_gfi rfl (by have := hWS.2.2.2; omega) hWS.1 (by decide) (by decide) rfl ?_
    refine ex_st 2 (pc' := 28) (ls' := [(0, xr W), (1, xi x)]) (st' := [xi 10, xi ((x + 3) + ((x_up I (W + 2) x.toNat ((I (W + 2) x.toNat) + 1)) W 5)), xr W]) rfl ?_
    refine ex_irem rfl (by first | (constructor <;> omega) | (rw [x_up_ne (by omega)]; constructor <;> omega)) (by first | (constructor <;> omega) | (rw [x_up_ne (by omega)]; constructor <;> omega)) (by decide) ?_
    refine ex_pfi rfl (by have := hWS.2.2.2; omega) hWS.1 (by decide) rfl (by decide) (fun h => by cases h) ?_
    refine ex_st 2 (pc' := 34) (ls' := [(0, xr W), (1, xi x)]) (st' := [xr W, xr W]) rfl ?_
    refine ex_gfi rfl (by have := hWS.2.2.2; omega) hWS.1 (by decide) (by decide) rfl ?_
    refine ex_st 2 (pc' := 39) (ls' := [(0, xr W), (1, xi x)]) (st' := [xi (((x_up (x_up I (W + 2) x.toNat ((I (W + 2) x.toNat) + 1)) W 5 (((x + 3) + ((x_up I (W + 2) x.toNat ((I (W + 2) x.toNat) + 1)) W 5)).tmod 10)) W 6) + 1), xr W]) rfl ?_
    refine ex_pfi rfl (by have := hWS.2.2.2; omega) hWS.1 (by decide) rfl (by decide) (fun h => by cases h) ?_
    refine ex_retv rfl rfl ?_
    exact ⟨rfl, by show _ = (xSH, x_up (sp_en2 I W x) W 6 (sp_en2 I W x W 6 + 1), L); rw [show sp_en2 I W x = x_up (sp_en1 I W x) W 5 ((x + 3 + sp_en1 I W x W 5).tmod 10) from by unfold sp_en2; rw [if_pos (by omega)]]; try rfl⟩
theorem lp_putOn {sc : List Int} {I : Nat → Nat → Int} {L : Nat → Nat → Int64} {W : Nat} (hWS : WS W) (hW3 : xSH[W + 3]? = some (20, 5, [])) {x : Int} (hx : x_R x) {n : Nat} (hn : I W 4 = (n : Int)) (hn5 : n ≤ 5) {f : Nat → Int} (hf : ∀ j, j < n → I (W + 3) j = f j ∧ x_R (f j)) (i : Nat) (hi : i ≤ n) (hac : sp_has f x i = false) : x_Ex sc 0 xM_W_putOnAgenda 2 [(2, xi (↑i)), (0, xr W), (1, xi x)] [] (xSH, I, L) (fun r m' => r = some (xi (x_b (sp_has f x n = false ∧ n < 5))) ∧ m' = (xSH, (if sp_has f x n = false ∧ n < 5 then x_up (x_up I (W + 3) n x) W 4 ((n + 1 : Nat) : Int) else I), L)) := by
  have hw85 := hWS.2.2.2
  refine ex_st 2 (pc' := 4) (ls' := [(2, xi (↑i)), (0, xr W), (1, xi x)]) (st' := [xr W, xi (↑i)]) rfl ?_
  refine ex_gfi rfl (by have := hWS.2.2.2; omega) hWS.1 (by decide) (by decide) rfl ?_
  rw [hn]
  refine ex_ic rfl (by first | exact hx | (constructor <;> omega) | (rw [(hf i (by omega)).1]; exact (hf i (by omega)).2)) (by first | exact hx | (constructor <;> omega) | (rw [(hf i (by omega)).1]; exact (hf i (by omega)).2)) (fun (h0 : (↑n : Int) ≤ (↑i : Int)) => ?_) (fun (h0 : ¬ (↑n : Int) ≤ (↑i : Int)) => ?_)
  · refine ex_st 1 (pc' := 29) (ls' := [(2, xi (↑i)), (0, xr W), (1, xi x)]) (st' := [xr W]) rfl ?_
    refine ex_gfi rfl (by have := hWS.2.2.2; omega) hWS.1 (by decide) (by decide) rfl ?_
    rw [hn]
    refine ex_st 1 (pc' := 33) (ls' := [(2, xi (↑i)), (0, xr W), (1, xi x)]) (st' := [xi 5, xi (↑n)]) rfl ?_
    refine ex_ic rfl (by first | exact hx | (constructor <;> omega) | (rw [(hf i (by omega)).1]; exact (hf i (by omega)).2)) (by decide) (fun (h1 : (↑n : Int) < 5) => ?_) (fun (h1 : ¬ (↑n : Int) < 5) => ?_)
    · refine ex_st 1 (pc' := 39) (ls' := [(2, xi (↑i)), (0, xr W), (1, xi x)]) (st' := [xr W]) rfl ?_
      refine ex_gfr rfl (by have := hWS.2.2.2; omega) hWS.1 (by decide) (by decide) rfl ?_
      refine ex_st 1 (pc' := 43) (ls' := [(2, xi (↑i)), (0, xr W), (1, xi x)]) (st' := [xr W, xr (W + 3)]) rfl ?_
      refine ex_gfi rfl (by have := hWS.2.2.2; omega) hWS.1 (by decide) (by decide) rfl ?_
      rw [hn]
      refine ex_st 1 (pc' := 47) (ls' := [(2, xi (↑i)), (0, xr W), (1, xi x)]) (st' := [xi x, xi (↑n), xr (W + 3)]) rfl ?_
      refine ex_iast (j := n) rfl (by have := hWS.2.2.2; omega) hW3 (by omega) (by omega) (by decide) ?_
      refine ex_st 2 (pc' := 50) (ls' := [(2, xi (↑i)), (0, xr W), (1, xi x)]) (st' := [xr W, xr W]) rfl ?_
      refine ex_gfi rfl (by have := hWS.2.2.2; omega) hWS.1 (by decide) (by decide) rfl ?_
      refine ex_st 2 (pc' := 55) (ls' := [(2, xi (↑i)), (0, xr W), (1, xi x)]) (st' := [xi (((x_up I (W + 3) n x) W 4) + 1), xr W]) rfl ?_
      refine ex_pfi rfl (by have := hWS.2.2.2; omega) hWS.1 (by decide) rfl (by decide) (fun h => by cases h) ?_
      refine ex_st 1 (pc' := 59) (ls' := [(2, xi (↑i)), (0, xr W), (1, xi x)]) (st' := [xi 1]) rfl ?_
      refine ex_retz rfl (Or.inr rfl) rfl ?_
      have hin : i = n := by omega
      subst hin
      refine ⟨by unfold x_b; rw [if_pos ⟨hac, by omega⟩], ?_⟩
      rw [if_pos ⟨hac, by omega⟩, x_up_ne (show W ≠ W + 3 by omega), hn]
      rfl
    · refine ex_st 1 (pc' := 37) (ls' := [(2, xi (↑i)), (0, xr W), (1, xi x)]) (st' := [xi 0]) rfl ?_
      refine ex_retz rfl (Or.inl rfl) rfl ?_
      have hno : ¬ (sp_has f x n = false ∧ n < 5) := by
        first | omega | (have h8 := (hf i (by omega)).1; have h9 := sp_has_yes (f := f) (x := x) (i := i) (by omega) n (by omega); rw [h9]; simp)
      exact ⟨by unfold x_b; rw [if_neg hno], by rw [if_neg hno]⟩
  · refine ex_st 1 (pc' := 11) (ls' := [(2, xi (↑i)), (0, xr W), (1, xi x)]) (st' := [xr W]) rfl ?_
    refine ex_gfr rfl (by have := hWS.2.2.2; omega) hWS.1 (by decide) (by decide) rfl ?_
    refine ex_st 1 (pc' := 15) (ls' := [(2, xi (↑i)), (0, xr W), (1, xi x)]) (st' := [xi (↑i), xr (W + 3)]) rfl ?_
    refine ex_iald (j := i) rfl (by have := hWS.2.2.2; omega) hW3 (by omega) (by omega) (by decide) ?_
    refine ex_st 1 (pc' := 17) (ls' := [(2, xi (↑i)), (0, xr W), (1, xi x)]) (st' := [xi x, xi (I (W + 3) i)]) rfl ?_
    refine ex_ic rfl (by first | exact hx | (constructor <;> omega) | (rw [(hf i (by omega)).1]; exact (hf i (by omega)).2)) (by first | exact hx | (constructor <;> omega) | (rw [(hf i (by omega)).1]; exact (hf i (by omega)).2)) (fun (h2 : ¬ (I (W + 3) i) = x) => ?_) (fun (h2 : ¬ ¬ (I (W + 3) i) = x) => ?_)
    · refine ex_st 2 (pc' := 2) (ls' := [(2, xi ((↑i) + 1)), (0, xr W), (1, xi x)]) (st' := []) rfl ?_
      have h8 := (hf i (by omega)).1
      exact lp_putOn hWS hW3 hx hn hn5 hf (i + 1) (by omega) (by show (sp_has f x i || decide (f i = x)) = false; rw [hac, Bool.false_or, decide_eq_false_iff_not]; omega)
    · refine ex_st 1 (pc' := 21) (ls' := [(2, xi (↑i)), (0, xr W), (1, xi x)]) (st' := [xi 0]) rfl ?_
      refine ex_retz rfl (Or.inl rfl) rfl ?_
      have hno : ¬ (sp_has f x n = false ∧ n < 5) := by
        first | omega | (have h8 := (hf i (by omega)).1; have h9 := sp_has_yes (f := f) (x := x) (i := i) (by omega) n (by omega); rw [h9]; simp)
      exact ⟨by unfold x_b; rw [if_neg hno], by rw [if_neg hno]⟩
termination_by n - i
decreasing_by all_goals omega
theorem ct_W_putOnAgenda {sc : List Int} {I : Nat → Nat → Int} {L : Nat → Nat → Int64} {W : Nat} (hWS : WS W) (hW3 : xSH[W + 3]? = some (20, 5, [])) {x : Int} (hx : x_R x) {n : Nat} (hn : I W 4 = (n : Int)) (hn5 : n ≤ 5) {f : Nat → Int} (hf : ∀ j, j < n → I (W + 3) j = f j ∧ x_R (f j)) : x_CQ sc 1 xN_W_putOnAgenda [xr W, xi x] (xSH, I, L) (fun r m' => r = some (xi (x_b (sp_has f x n = false ∧ n < 5))) ∧ m' = (xSH, (if sp_has f x n = false ∧ n < 5 then x_up (x_up I (W + 3) n x) W 4 ((n + 1 : Nat) : Int) else I), L)) := by
  refine x_CQ.of (M := xM_W_putOnAgenda) rfl (Nat.le_of_ble_eq_true rfl) ?_
  refine ex_st 2 (pc' := 2) (ls' := [(2, xi 0), (0, xr W), (1, xi x)]) (st' := []) rfl ?_
  exact lp_putOn hWS hW3 hx hn hn5 hf 0 (by omega) rfl
