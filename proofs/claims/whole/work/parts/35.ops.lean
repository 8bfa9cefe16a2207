/-! pairs of calls: put, taken -/
def x_pgb (a b c d e x : Nat) : Bool := a == b || a == c || a == d || a == e || b == c || b == d || b == e || c == d || c == e || d == e || x == a || x == b || x == c || x == d || x == e
theorem x_pigN : ∀ a, a < 5 → ∀ b, b < 5 → ∀ c, c < 5 → ∀ d, d < 5 → ∀ e, e < 5 → ∀ x, x < 5 → x_pgb a b c d e x = true := by decide +kernel
theorem x_pig {a b c d e x : Int} (ha : 0 ≤ a ∧ a ≤ 4) (hb : 0 ≤ b ∧ b ≤ 4) (hc : 0 ≤ c ∧ c ≤ 4) (hd : 0 ≤ d ∧ d ≤ 4) (he : 0 ≤ e ∧ e ≤ 4) (hx : 0 ≤ x ∧ x ≤ 4) (h1 : a ≠ b) (h2 : a ≠ c) (h3 : b ≠ c) (h4 : a ≠ d) (h5 : b ≠ d) (h6 : c ≠ d) (h7 : a ≠ e) (h8 : b ≠ e) (h9 : c ≠ e) (h10 : d ≠ e) : x = a ∨ x = b ∨ x = c ∨ x = d ∨ x = e := by
  obtain ⟨a, rfl⟩ := Int.eq_ofNat_of_zero_le ha.1
  obtain ⟨b, rfl⟩ := Int.eq_ofNat_of_zero_le hb.1
  obtain ⟨c, rfl⟩ := Int.eq_ofNat_of_zero_le hc.1
  obtain ⟨d, rfl⟩ := Int.eq_ofNat_of_zero_le hd.1
  obtain ⟨e, rfl⟩ := Int.eq_ofNat_of_zero_le he.1
  obtain ⟨x, rfl⟩ := Int.eq_ofNat_of_zero_le hx.1
  have h := x_pigN a (by omega) b (by omega) c (by omega) d (by omega) e (by omega) x (by omega)
  simp only [x_pgb, Bool.or_eq_true, beq_iff_eq] at h
  omega

theorem op_put {sc : List Int} {I : Nat → Nat → Int} {L : Nat → Nat → Int64} (hR : Rl I L) {x : Int} (hx : x_R x) : x_PQ sc xN_G_put [xr 0, xi x] xN_m_put [xr 143, xi x] (xSH, I, L) := by
  obtain ⟨⟨hNs, hNo, hNa, hNb, hNr, hNd, hNg, hNe, hNp, hNk⟩, hI, hT, hX, hC, hH, hQ⟩ := id hR
  have hs := hNs
  unfold RNs at hs
  obtain ⟨g1, g2, g3, g4, g5, g6⟩ := id hNg
  obtain ⟨c, hc0⟩ := Int.eq_ofNat_of_zero_le g2
  rcases (show c = 0 ∨ c = 1 ∨ c = 2 ∨ c = 3 ∨ c = 4 ∨ c = 5 by omega) with rfl | rfl | rfl | rfl | rfl | rfl
  · have hq0 : I 143 2 = 0 := by omega
    have hq1 : I 1 4 = 0 := by omega
    refine x_CQ.of (M := xM_G_put) rfl (Nat.le_of_ble_eq_true rfl) ?_
    refine ex_st 2 (pc' := 2) (ls' := [(0, xr 0), (1, xi x)]) (st' := [xi (-1), xi x]) rfl ?_
    refine ex_ic rfl (by first | omega | (constructor <;> omega) | assumption) (by decide) (fun (h0 : ¬ x = (-1)) => ?_) (fun (h0 : ¬ ¬ x = (-1)) => ?_)
    · refine ex_st 1 (pc' := 16) (ls' := [(0, xr 0), (1, xi x)]) (st' := [xi x]) rfl ?_
      refine ex_call (ct_G_isThing (by first | omega | (constructor <;> omega) | assumption)) (by decide) rfl ⟨rfl, rfl, rfl⟩ ⟨Nat.le_of_ble_eq_true rfl, rfl, rfl⟩ (Nat.le_of_ble_eq_true rfl) rfl ?_
      refine ex_bne rfl (fun h1 => ?_) (fun h1 => ?_)
      · refine ex_st 3 (pc' := 29) (ls' := [(0, xr 0), (1, xi x)]) (st' := [xi x, xr 1]) rfl ?_
        refine ex_inl (M' := xM_W_putOnAgenda) (as := [xr 1, xi x]) (rest := []) (D' := 28) rfl (Nat.le_of_ble_eq_true rfl) (by decide) rfl ⟨rfl, rfl, rfl⟩ ⟨Nat.le_of_ble_eq_true rfl, rfl, rfl⟩ (Nat.le_of_ble_eq_true rfl) rfl ?_
        refine ex_st 5 (pc' := 7) (ls' := [(2, xi 0), (0, xr 1), (1, xi x)]) (st' := [xi (I 1 4), xi 0]) rfl ?_
        rw [hq1]
        refine ex_st 1 (pc' := 28) (ls' := [(2, xi 0), (0, xr 1), (1, xi x)]) (st' := []) rfl ?_
        refine ex_st 2 (pc' := 32) (ls' := [(2, xi 0), (0, xr 1), (1, xi x)]) (st' := [xi (I 1 4)]) rfl ?_
        rw [hq1]
        refine ex_st 1 (pc' := 33) (ls' := [(2, xi 0), (0, xr 1), (1, xi x)]) (st' := [xi 5, xi 0]) rfl ?_
        refine ex_st 1 (pc' := 38) (ls' := [(2, xi 0), (0, xr 1), (1, xi x)]) (st' := []) rfl ?_
        refine ex_st 4 (pc' := 46) (ls' := [(2, xi 0), (0, xr 1), (1, xi x)]) (st' := [xi (I 1 4), xr 4]) rfl ?_
        rw [hq1]
        refine ex_st 1 (pc' := 47) (ls' := [(2, xi 0), (0, xr 1), (1, xi x)]) (st' := [xi x, xi 0, xr 4]) rfl ?_
        refine ex_iast (j := 0) rfl (by decide) (rfl : xSH[4]? = some _) (by decide) (by decide) (by decide) ?_
        refine ex_st 3 (pc' := 53) (ls' := [(2, xi 0), (0, xr 1), (1, xi x)]) (st' := [xi ((x_up I 4 0 x) 1 4), xr 1]) rfl ?_
        rw [(x_up_far (by first | decide | omega) : (x_up I 4 0 x) 1 4 = I 1 4)]
        rw [hq1]
        refine ex_st 2 (pc' := 55) (ls' := [(2, xi 0), (0, xr 1), (1, xi x)]) (st' := [xi 1, xr 1]) rfl ?_
        refine ex_pfi rfl (by decide) (rfl : xSH[1]? = some _) (by decide) rfl (by decide) (fun h => by cases h) ?_
        refine ex_st 1 (pc' := 59) (ls' := [(2, xi 0), (0, xr 1), (1, xi x)]) (st' := [xi 1]) rfl ?_
        refine ex_retz rfl (Or.inr rfl) rfl ?_
        refine ex_st 1 (pc' := 35) (ls' := [(0, xr 0), (1, xi x)]) (st' := []) rfl ?_
        refine ex_st 3 (pc' := 42) (ls' := [(0, xr 0), (1, xi x)]) (st' := [xi ((x_up (x_up I 4 0 x) 1 4 1) 1 4)]) rfl ?_
        rw [x_up_at (x_up I 4 0 x) 1 4 1]
        refine ex_st 1 (pc' := 47) (ls' := [(0, xr 0), (1, xi x)]) (st' := [xi 1]) rfl ?_
        refine ex_reti rfl rfl ?_
        refine x_CQ.of (M := xM_m_put) rfl (Nat.le_of_ble_eq_true rfl) ?_
        refine ex_st 2 (pc' := 2) (ls' := [(0, xr 143), (1, xi x)]) (st' := [xi (-1), xi x]) rfl ?_
        refine ex_ic rfl (by first | omega | (constructor <;> omega) | assumption) (by decide) (fun (h2 : ¬ x = (-1)) => ?_) (fun (h2 : ¬ ¬ x = (-1)) => ?_)
        · refine ex_st 2 (pc' := 14) (ls' := [(0, xr 143), (1, xi x)]) (st' := [xi x, xr 143]) rfl ?_
          refine ex_call (ct_m_isThing (by first | omega | (constructor <;> omega) | assumption)) (by decide) rfl ⟨rfl, rfl, rfl⟩ ⟨Nat.le_of_ble_eq_true rfl, rfl, rfl⟩ (Nat.le_of_ble_eq_true rfl) rfl ?_
          refine ex_bne rfl (fun h3 => ?_) (fun h3 => ?_)
          · refine ex_st 5 (pc' := 29) (ls' := [(2, xi 0), (0, xr 143), (1, xi x)]) (st' := [xi ((x_up (x_up I 4 0 x) 1 4 1) 143 2), xi 0]) rfl ?_
            rw [(x_up_far (by first | decide | omega) : (x_up (x_up I 4 0 x) 1 4 1) 143 2 = (x_up I 4 0 x) 143 2)]
            rw [(x_up_far (by first | decide | omega) : (x_up I 4 0 x) 143 2 = I 143 2)]
            rw [hq0]
            refine ex_st 1 (pc' := 51) (ls' := [(2, xi 0), (0, xr 143), (1, xi x)]) (st' := []) rfl ?_
            refine ex_st 4 (pc' := 59) (ls' := [(2, xi 0), (0, xr 143), (1, xi x)]) (st' := [xi ((x_up (x_up I 4 0 x) 1 4 1) 143 2), xr 150]) rfl ?_
            rw [(x_up_far (by first | decide | omega) : (x_up (x_up I 4 0 x) 1 4 1) 143 2 = (x_up I 4 0 x) 143 2)]
            rw [(x_up_far (by first | decide | omega) : (x_up I 4 0 x) 143 2 = I 143 2)]
            rw [hq0]
            refine ex_st 1 (pc' := 60) (ls' := [(2, xi 0), (0, xr 143), (1, xi x)]) (st' := [xi x, xi 0, xr 150]) rfl ?_
            refine ex_iast (j := 0) rfl (by decide) (rfl : xSH[150]? = some _) (by decide) (by decide) (by decide) ?_
            refine ex_st 3 (pc' := 66) (ls' := [(2, xi 0), (0, xr 143), (1, xi x)]) (st' := [xi ((x_up (x_up (x_up I 4 0 x) 1 4 1) 150 0 x) 143 2), xr 143]) rfl ?_
            rw [(x_up_far (by first | decide | omega) : (x_up (x_up (x_up I 4 0 x) 1 4 1) 150 0 x) 143 2 = (x_up (x_up I 4 0 x) 1 4 1) 143 2)]
            rw [(x_up_far (by first | decide | omega) : (x_up (x_up I 4 0 x) 1 4 1) 143 2 = (x_up I 4 0 x) 143 2)]
            rw [(x_up_far (by first | decide | omega) : (x_up I 4 0 x) 143 2 = I 143 2)]
            rw [hq0]
            refine ex_st 2 (pc' := 68) (ls' := [(2, xi 0), (0, xr 143), (1, xi x)]) (st' := [xi 1, xr 143]) rfl ?_
            refine ex_pfi rfl (by decide) (rfl : xSH[143]? = some _) (by decide) rfl (by decide) (fun h => by cases h) ?_
            refine ex_st 2 (pc' := 75) (ls' := [(2, xi 0), (0, xr 143), (1, xi x)]) (st' := [xi ((x_up (x_up (x_up (x_up I 4 0 x) 1 4 1) 150 0 x) 143 2 1) 143 2)]) rfl ?_
            rw [x_up_at (x_up (x_up (x_up I 4 0 x) 1 4 1) 150 0 x) 143 2 1]
            refine ex_reti rfl rfl ?_
            refine ⟨x_req (by first | rfl | omega), ?_⟩
            have hno : ∀ y : Nat, y < 0 → I 150 y ≠ x := by
              intro y hy
              have h4 := g4 y (by omega)
              omega
            refine ⟨_, _, rfl, ?_⟩
            generalize hM : (x_up (x_up (x_up (x_up I 4 0 x) 1 4 1) 150 0 x) 143 2 1) = I2
            have hF : ∀ k j, ¬ ((k = 143 ∧ j = 2) ∨ (k = 150 ∧ j = 0) ∨ (k = 1 ∧ j = 4) ∨ (k = 4 ∧ j = 0)) → I2 k j = I k j := by intro k j hk; rw [← hM]; (repeat rw [x_up_far (by omega)])
            have hw0 : I2 143 2 = 1 := by rw [← hM]; (repeat (first | rw [x_up_far (by omega)] | rw [x_up_at2 (by omega) (by omega)]))
            have hw1 : I2 150 0 = x := by rw [← hM]; (repeat (first | rw [x_up_far (by omega)] | rw [x_up_at2 (by omega) (by omega)]))
            have hw2 : I2 1 4 = 1 := by rw [← hM]; (repeat (first | rw [x_up_far (by omega)] | rw [x_up_at2 (by omega) (by omega)]))
            have hw3 : I2 4 0 = x := by rw [← hM]; (repeat (first | rw [x_up_far (by omega)] | rw [x_up_at2 (by omega) (by omega)]))
            clear hM
            have hI2 : RIw I2 := by
              obtain ⟨gs, go, ga, gb, gr, gd, gg, ge, gp, gk⟩ := id hI
              exact ⟨gs.fr ⟨by (repeat rw [hF _ _ (by omega)]); try rfl, by (repeat rw [hF _ _ (by omega)]); try rfl, by (repeat rw [hF _ _ (by omega)]); try rfl, by (repeat rw [hF _ _ (by omega)]); try rfl, by (repeat rw [hF _ _ (by omega)]); try rfl, by (repeat rw [hF _ _ (by omega)]); try rfl, by (repeat rw [hF _ _ (by omega)]); try rfl, by (repeat rw [hF _ _ (by omega)]); try rfl, by (repeat rw [hF _ _ (by omega)]); try rfl⟩, go.fr (by intros; (repeat rw [hF _ _ (by omega)]); try rfl) (by intros; (repeat rw [hF _ _ (by omega)]); try rfl), ga.fr (by intros; (repeat rw [hF _ _ (by omega)]); try rfl) (by (repeat rw [hF _ _ (by omega)]); try rfl), gb.fr (by intros; (repeat rw [hF _ _ (by omega)]); try rfl) (by intros; (repeat rw [hF _ _ (by omega)]); try rfl), gr.fr (by intros; (repeat rw [hF _ _ (by omega)]); try rfl) (by intros; (repeat rw [hF _ _ (by omega)]); try rfl), gd.fr (by intros; (repeat rw [hF _ _ (by omega)]); try rfl) (by intros; (repeat rw [hF _ _ (by omega)]); try rfl) (by (repeat rw [hF _ _ (by omega)]); try rfl), gg.fr ⟨by (repeat rw [hF _ _ (by omega)]); try rfl, by (repeat rw [hF _ _ (by omega)]); try rfl⟩ (by intros; (repeat rw [hF _ _ (by omega)]); try rfl) (by intros; (repeat rw [hF _ _ (by omega)]); try rfl), ge.fr ⟨by (repeat rw [hF _ _ (by omega)]); try rfl, by (repeat rw [hF _ _ (by omega)]); try rfl, by (repeat rw [hF _ _ (by omega)]); try rfl⟩ (by intros; (repeat rw [hF _ _ (by omega)]); try rfl) (by intros; (repeat rw [hF _ _ (by omega)]); try rfl), gp.fr ⟨by (repeat rw [hF _ _ (by omega)]); try rfl, by (repeat rw [hF _ _ (by omega)]); try rfl, by (repeat rw [hF _ _ (by omega)]); try rfl⟩ (by intros; (repeat rw [hF _ _ (by omega)]); try rfl) (by intros; (repeat rw [hF _ _ (by omega)]); try rfl), gk.fr ⟨by (repeat rw [hF _ _ (by omega)]); try rfl, by (repeat rw [hF _ _ (by omega)]); try rfl, by (repeat rw [hF _ _ (by omega)]); try rfl⟩ (by intros; (repeat rw [hF _ _ (by omega)]); try rfl) (by intros; (repeat rw [hF _ _ (by omega)]); try rfl)⟩
            refine ⟨⟨hNs.fr ⟨by (repeat rw [hF _ _ (by omega)]); try rfl, by (repeat rw [hF _ _ (by omega)]); try rfl, by (repeat rw [hF _ _ (by omega)]); try rfl, by (repeat rw [hF _ _ (by omega)]); try rfl, by (repeat rw [hF _ _ (by omega)]); try rfl, by (repeat rw [hF _ _ (by omega)]); try rfl, by (repeat rw [hF _ _ (by omega)]); try rfl, by (repeat rw [hF _ _ (by omega)]); try rfl, by (repeat rw [hF _ _ (by omega)]); try rfl⟩, hNo.fr (by intros; (repeat rw [hF _ _ (by omega)]); try rfl) (by intros; (repeat rw [hF _ _ (by omega)]); try rfl), hNa.fr (by intros; (repeat rw [hF _ _ (by omega)]); try rfl) (by (repeat rw [hF _ _ (by omega)]); try rfl), hNb.fr (by intros; (repeat rw [hF _ _ (by omega)]); try rfl) (by intros; (repeat rw [hF _ _ (by omega)]); try rfl), hNr.fr (by intros; (repeat rw [hF _ _ (by omega)]); try rfl) (by intros; (repeat rw [hF _ _ (by omega)]); try rfl), hNd.fr (by intros; (repeat rw [hF _ _ (by omega)]); try rfl) (by intros; (repeat rw [hF _ _ (by omega)]); try rfl) (by (repeat rw [hF _ _ (by omega)]); try rfl), ?_, hNe.fr ⟨by (repeat rw [hF _ _ (by omega)]); try rfl, by (repeat rw [hF _ _ (by omega)]); try rfl, by (repeat rw [hF _ _ (by omega)]); try rfl⟩ (by intros; (repeat rw [hF _ _ (by omega)]); try rfl) (by intros; (repeat rw [hF _ _ (by omega)]); try rfl), hNp.fr ⟨by (repeat rw [hF _ _ (by omega)]); try rfl, by (repeat rw [hF _ _ (by omega)]); try rfl, by (repeat rw [hF _ _ (by omega)]); try rfl⟩ (by intros; (repeat rw [hF _ _ (by omega)]); try rfl) (by intros; (repeat rw [hF _ _ (by omega)]); try rfl), hNk.fr ⟨by (repeat rw [hF _ _ (by omega)]); try rfl, by (repeat rw [hF _ _ (by omega)]); try rfl, by (repeat rw [hF _ _ (by omega)]); try rfl⟩ (by intros; (repeat rw [hF _ _ (by omega)]); try rfl) (by intros; (repeat rw [hF _ _ (by omega)]); try rfl)⟩, hI2, hT.fr ⟨by (repeat rw [hF _ _ (by omega)]); try rfl, by (repeat rw [hF _ _ (by omega)]); try rfl⟩ (by intros; (repeat rw [hF _ _ (by omega)]); try rfl) (by intros; (repeat rw [hF _ _ (by omega)]); try rfl) (by intros; (repeat rw [hF _ _ (by omega)]); try rfl), hX.fr ⟨by (repeat rw [hF _ _ (by omega)]); try rfl, by (repeat rw [hF _ _ (by omega)]); try rfl⟩ (by intros; (repeat rw [hF _ _ (by omega)]); try rfl), hC.fr ⟨by (repeat rw [hF _ _ (by omega)]); try rfl, by (repeat rw [hF _ _ (by omega)]); try rfl⟩ (by intros; (repeat rw [hF _ _ (by omega)]); try rfl), hH.fr ⟨by (repeat rw [hF _ _ (by omega)]); try rfl, by (repeat rw [hF _ _ (by omega)]); try rfl, by (repeat rw [hF _ _ (by omega)]); try rfl⟩ (by intros; (repeat rw [hF _ _ (by omega)]); try rfl) (by intros; (repeat rw [hF _ _ (by omega)]); try rfl), hQ.fr (by intros; (repeat rw [hF _ _ (by omega)]); try rfl) (by intros; (repeat rw [hF _ _ (by omega)]); try rfl) (by intros; (repeat rw [hF _ _ (by omega)]); try rfl) (by intros; (repeat rw [hF _ _ (by omega)]); try rfl)⟩
            · refine ⟨by (repeat (first | rw [hw0] | rw [hw1] | rw [hw2] | rw [hw3] | rw [hF _ _ (by omega)])), by (repeat (first | rw [hw0] | rw [hw1] | rw [hw2] | rw [hw3] | rw [hF _ _ (by omega)])); omega, by (repeat (first | rw [hw0] | rw [hw1] | rw [hw2] | rw [hw3] | rw [hF _ _ (by omega)])); omega, fun y hy => ?_, fun y hy => ?_, fun y z hyz hz => ?_⟩
              · by_cases e : y = 0
                · subst e; (repeat (first | rw [hw0] | rw [hw1] | rw [hw2] | rw [hw3] | rw [hF _ _ (by omega)]))
                · (repeat (first | rw [hw0] | rw [hw1] | rw [hw2] | rw [hw3] | rw [hF _ _ (by omega)])); exact g4 y hy
              · rw [hw0] at hy; by_cases e : y = 0
                · subst e; (repeat (first | rw [hw0] | rw [hw1] | rw [hw2] | rw [hw3] | rw [hF _ _ (by omega)])); omega
                · have h := g5 y (by omega); (repeat (first | rw [hw0] | rw [hw1] | rw [hw2] | rw [hw3] | rw [hF _ _ (by omega)])); exact h
              · rw [hw0] at hz; by_cases e : z = 0
                · subst e; have h := hno y (by omega); (repeat (first | rw [hw0] | rw [hw1] | rw [hw2] | rw [hw3] | rw [hF _ _ (by omega)])); exact h
                · have h := g6 y z hyz (by omega); (repeat (first | rw [hw0] | rw [hw1] | rw [hw2] | rw [hw3] | rw [hF _ _ (by omega)])); exact h
          · exfalso; omega
        · exfalso; omega
      · refine ex_st 1 (pc' := 23) (ls' := [(0, xr 0), (1, xi x)]) (st' := [xi (-1)]) rfl ?_
        refine ex_reti rfl rfl ?_
        refine x_CQ.of (M := xM_m_put) rfl (Nat.le_of_ble_eq_true rfl) ?_
        refine ex_st 2 (pc' := 2) (ls' := [(0, xr 143), (1, xi x)]) (st' := [xi (-1), xi x]) rfl ?_
        refine ex_ic rfl (by first | omega | (constructor <;> omega) | assumption) (by decide) (fun (h4 : ¬ x = (-1)) => ?_) (fun (h4 : ¬ ¬ x = (-1)) => ?_)
        · refine ex_st 2 (pc' := 14) (ls' := [(0, xr 143), (1, xi x)]) (st' := [xi x, xr 143]) rfl ?_
          refine ex_call (ct_m_isThing (by first | omega | (constructor <;> omega) | assumption)) (by decide) rfl ⟨rfl, rfl, rfl⟩ ⟨Nat.le_of_ble_eq_true rfl, rfl, rfl⟩ (Nat.le_of_ble_eq_true rfl) rfl ?_
          refine ex_bne rfl (fun h5 => ?_) (fun h5 => ?_)
          · exfalso; omega
          · refine ex_st 1 (pc' := 21) (ls' := [(0, xr 143), (1, xi x)]) (st' := [xi (-1)]) rfl ?_
            refine ex_reti rfl rfl ?_
            exact ⟨x_req (by first | rfl | omega), _, _, rfl, hR⟩
        · exfalso; omega
    · refine ex_st 3 (pc' := 10) (ls' := [(0, xr 0), (1, xi x)]) (st' := [xi 0, xr 1]) rfl ?_
      refine ex_pfi rfl (by decide) (rfl : xSH[1]? = some _) (by decide) rfl (by decide) (fun h => by cases h) ?_
      refine ex_st 1 (pc' := 14) (ls' := [(0, xr 0), (1, xi x)]) (st' := [xi 0]) rfl ?_
      refine ex_reti rfl rfl ?_
      refine x_CQ.of (M := xM_m_put) rfl (Nat.le_of_ble_eq_true rfl) ?_
      refine ex_st 2 (pc' := 2) (ls' := [(0, xr 143), (1, xi x)]) (st' := [xi (-1), xi x]) rfl ?_
      refine ex_ic rfl (by first | omega | (constructor <;> omega) | assumption) (by decide) (fun (h6 : ¬ x = (-1)) => ?_) (fun (h6 : ¬ ¬ x = (-1)) => ?_)
      · exfalso; omega
      · refine ex_st 2 (pc' := 7) (ls' := [(0, xr 143), (1, xi x)]) (st' := [xi 0, xr 143]) rfl ?_
        refine ex_pfi rfl (by decide) (rfl : xSH[143]? = some _) (by decide) rfl (by decide) (fun h => by cases h) ?_
        refine ex_st 1 (pc' := 11) (ls' := [(0, xr 143), (1, xi x)]) (st' := [xi 0]) rfl ?_
        refine ex_reti rfl rfl ?_
        refine ⟨x_req (by first | rfl | omega), ?_⟩
        refine ⟨_, _, rfl, ?_⟩
        generalize hM : (x_up (x_up I 1 4 0) 143 2 0) = I2
        have hF : ∀ k j, ¬ ((k = 143 ∧ j = 2) ∨ (k = 1 ∧ j = 4)) → I2 k j = I k j := by intro k j hk; rw [← hM]; (repeat rw [x_up_far (by omega)])
        have hw0 : I2 143 2 = 0 := by rw [← hM]; (repeat (first | rw [x_up_far (by omega)] | rw [x_up_at2 (by omega) (by omega)]))
        have hw1 : I2 1 4 = 0 := by rw [← hM]; (repeat (first | rw [x_up_far (by omega)] | rw [x_up_at2 (by omega) (by omega)]))
        clear hM
        have hI2 : RIw I2 := by
          obtain ⟨gs, go, ga, gb, gr, gd, gg, ge, gp, gk⟩ := id hI
          exact ⟨gs.fr ⟨by (repeat rw [hF _ _ (by omega)]); try rfl, by (repeat rw [hF _ _ (by omega)]); try rfl, by (repeat rw [hF _ _ (by omega)]); try rfl, by (repeat rw [hF _ _ (by omega)]); try rfl, by (repeat rw [hF _ _ (by omega)]); try rfl, by (repeat rw [hF _ _ (by omega)]); try rfl, by (repeat rw [hF _ _ (by omega)]); try rfl, by (repeat rw [hF _ _ (by omega)]); try rfl, by (repeat rw [hF _ _ (by omega)]); try rfl⟩, go.fr (by intros; (repeat rw [hF _ _ (by omega)]); try rfl) (by intros; (repeat rw [hF _ _ (by omega)]); try rfl), ga.fr (by intros; (repeat rw [hF _ _ (by omega)]); try rfl) (by (repeat rw [hF _ _ (by omega)]); try rfl), gb.fr (by intros; (repeat rw [hF _ _ (by omega)]); try rfl) (by intros; (repeat rw [hF _ _ (by omega)]); try rfl), gr.fr (by intros; (repeat rw [hF _ _ (by omega)]); try rfl) (by intros; (repeat rw [hF _ _ (by omega)]); try rfl), gd.fr (by intros; (repeat rw [hF _ _ (by omega)]); try rfl) (by intros; (repeat rw [hF _ _ (by omega)]); try rfl) (by (repeat rw [hF _ _ (by omega)]); try rfl), gg.fr ⟨by (repeat rw [hF _ _ (by omega)]); try rfl, by (repeat rw [hF _ _ (by omega)]); try rfl⟩ (by intros; (repeat rw [hF _ _ (by omega)]); try rfl) (by intros; (repeat rw [hF _ _ (by omega)]); try rfl), ge.fr ⟨by (repeat rw [hF _ _ (by omega)]); try rfl, by (repeat rw [hF _ _ (by omega)]); try rfl, by (repeat rw [hF _ _ (by omega)]); try rfl⟩ (by intros; (repeat rw [hF _ _ (by omega)]); try rfl) (by intros; (repeat rw [hF _ _ (by omega)]); try rfl), gp.fr ⟨by (repeat rw [hF _ _ (by omega)]); try rfl, by (repeat rw [hF _ _ (by omega)]); try rfl, by (repeat rw [hF _ _ (by omega)]); try rfl⟩ (by intros; (repeat rw [hF _ _ (by omega)]); try rfl) (by intros; (repeat rw [hF _ _ (by omega)]); try rfl), gk.fr ⟨by (repeat rw [hF _ _ (by omega)]); try rfl, by (repeat rw [hF _ _ (by omega)]); try rfl, by (repeat rw [hF _ _ (by omega)]); try rfl⟩ (by intros; (repeat rw [hF _ _ (by omega)]); try rfl) (by intros; (repeat rw [hF _ _ (by omega)]); try rfl)⟩
        refine ⟨⟨hNs.fr ⟨by (repeat rw [hF _ _ (by omega)]); try rfl, by (repeat rw [hF _ _ (by omega)]); try rfl, by (repeat rw [hF _ _ (by omega)]); try rfl, by (repeat rw [hF _ _ (by omega)]); try rfl, by (repeat rw [hF _ _ (by omega)]); try rfl, by (repeat rw [hF _ _ (by omega)]); try rfl, by (repeat rw [hF _ _ (by omega)]); try rfl, by (repeat rw [hF _ _ (by omega)]); try rfl, by (repeat rw [hF _ _ (by omega)]); try rfl⟩, hNo.fr (by intros; (repeat rw [hF _ _ (by omega)]); try rfl) (by intros; (repeat rw [hF _ _ (by omega)]); try rfl), hNa.fr (by intros; (repeat rw [hF _ _ (by omega)]); try rfl) (by (repeat rw [hF _ _ (by omega)]); try rfl), hNb.fr (by intros; (repeat rw [hF _ _ (by omega)]); try rfl) (by intros; (repeat rw [hF _ _ (by omega)]); try rfl), hNr.fr (by intros; (repeat rw [hF _ _ (by omega)]); try rfl) (by intros; (repeat rw [hF _ _ (by omega)]); try rfl), hNd.fr (by intros; (repeat rw [hF _ _ (by omega)]); try rfl) (by intros; (repeat rw [hF _ _ (by omega)]); try rfl) (by (repeat rw [hF _ _ (by omega)]); try rfl), ?_, hNe.fr ⟨by (repeat rw [hF _ _ (by omega)]); try rfl, by (repeat rw [hF _ _ (by omega)]); try rfl, by (repeat rw [hF _ _ (by omega)]); try rfl⟩ (by intros; (repeat rw [hF _ _ (by omega)]); try rfl) (by intros; (repeat rw [hF _ _ (by omega)]); try rfl), hNp.fr ⟨by (repeat rw [hF _ _ (by omega)]); try rfl, by (repeat rw [hF _ _ (by omega)]); try rfl, by (repeat rw [hF _ _ (by omega)]); try rfl⟩ (by intros; (repeat rw [hF _ _ (by omega)]); try rfl) (by intros; (repeat rw [hF _ _ (by omega)]); try rfl), hNk.fr ⟨by (repeat rw [hF _ _ (by omega)]); try rfl, by (repeat rw [hF _ _ (by omega)]); try rfl, by (repeat rw [hF _ _ (by omega)]); try rfl⟩ (by intros; (repeat rw [hF _ _ (by omega)]); try rfl) (by intros; (repeat rw [hF _ _ (by omega)]); try rfl)⟩, hI2, hT.fr ⟨by (repeat rw [hF _ _ (by omega)]); try rfl, by (repeat rw [hF _ _ (by omega)]); try rfl⟩ (by intros; (repeat rw [hF _ _ (by omega)]); try rfl) (by intros; (repeat rw [hF _ _ (by omega)]); try rfl) (by intros; (repeat rw [hF _ _ (by omega)]); try rfl), hX.fr ⟨by (repeat rw [hF _ _ (by omega)]); try rfl, by (repeat rw [hF _ _ (by omega)]); try rfl⟩ (by intros; (repeat rw [hF _ _ (by omega)]); try rfl), hC.fr ⟨by (repeat rw [hF _ _ (by omega)]); try rfl, by (repeat rw [hF _ _ (by omega)]); try rfl⟩ (by intros; (repeat rw [hF _ _ (by omega)]); try rfl), hH.fr ⟨by (repeat rw [hF _ _ (by omega)]); try rfl, by (repeat rw [hF _ _ (by omega)]); try rfl, by (repeat rw [hF _ _ (by omega)]); try rfl⟩ (by intros; (repeat rw [hF _ _ (by omega)]); try rfl) (by intros; (repeat rw [hF _ _ (by omega)]); try rfl), hQ.fr (by intros; (repeat rw [hF _ _ (by omega)]); try rfl) (by intros; (repeat rw [hF _ _ (by omega)]); try rfl) (by intros; (repeat rw [hF _ _ (by omega)]); try rfl) (by intros; (repeat rw [hF _ _ (by omega)]); try rfl)⟩
        · refine ⟨by (repeat (first | rw [hw0] | rw [hw1] | rw [hF _ _ (by omega)])), by (repeat (first | rw [hw0] | rw [hw1] | rw [hF _ _ (by omega)])); omega, by (repeat (first | rw [hw0] | rw [hw1] | rw [hF _ _ (by omega)])); omega, fun y hy => by (repeat (first | rw [hw0] | rw [hw1] | rw [hF _ _ (by omega)])); exact g4 y hy, fun y hy => ?_, fun y z hyz hz => ?_⟩ <;> (exfalso; rw [hw0] at *; omega)
  · have hq0 : I 143 2 = 1 := by omega
    have hq1 : I 1 4 = 1 := by omega
    have e0 := g4 0 (by decide)
    have r0 := g5 0 (by omega)
    refine x_CQ.of (M := xM_G_put) rfl (Nat.le_of_ble_eq_true rfl) ?_
    refine ex_st 2 (pc' := 2) (ls' := [(0, xr 0), (1, xi x)]) (st' := [xi (-1), xi x]) rfl ?_
    refine ex_ic rfl (by first | omega | (constructor <;> omega) | assumption) (by decide) (fun (h0 : ¬ x = (-1)) => ?_) (fun (h0 : ¬ ¬ x = (-1)) => ?_)
    · refine ex_st 1 (pc' := 16) (ls' := [(0, xr 0), (1, xi x)]) (st' := [xi x]) rfl ?_
      refine ex_call (ct_G_isThing (by first | omega | (constructor <;> omega) | assumption)) (by decide) rfl ⟨rfl, rfl, rfl⟩ ⟨Nat.le_of_ble_eq_true rfl, rfl, rfl⟩ (Nat.le_of_ble_eq_true rfl) rfl ?_
      refine ex_bne rfl (fun h1 => ?_) (fun h1 => ?_)
      · refine ex_st 3 (pc' := 29) (ls' := [(0, xr 0), (1, xi x)]) (st' := [xi x, xr 1]) rfl ?_
        refine ex_inl (M' := xM_W_putOnAgenda) (as := [xr 1, xi x]) (rest := []) (D' := 28) rfl (Nat.le_of_ble_eq_true rfl) (by decide) rfl ⟨rfl, rfl, rfl⟩ ⟨Nat.le_of_ble_eq_true rfl, rfl, rfl⟩ (Nat.le_of_ble_eq_true rfl) rfl ?_
        refine ex_st 5 (pc' := 7) (ls' := [(2, xi 0), (0, xr 1), (1, xi x)]) (st' := [xi (I 1 4), xi 0]) rfl ?_
        rw [hq1]
        refine ex_st 1 (pc' := 10) (ls' := [(2, xi 0), (0, xr 1), (1, xi x)]) (st' := []) rfl ?_
        refine ex_st 3 (pc' := 15) (ls' := [(2, xi 0), (0, xr 1), (1, xi x)]) (st' := [xi 0, xr 4]) rfl ?_
        refine ex_iald (j := 0) rfl (by decide) (rfl : xSH[4]? = some _) (by decide) (by decide) (by decide) ?_
        refine ex_st 1 (pc' := 17) (ls' := [(2, xi 0), (0, xr 1), (1, xi x)]) (st' := [xi x, xi (I 4 0)]) rfl ?_
        refine ex_ic rfl (by first | omega | (constructor <;> omega) | assumption) (by first | omega | (constructor <;> omega) | assumption) (fun (h2 : ¬ (I 4 0) = x) => ?_) (fun (h2 : ¬ ¬ (I 4 0) = x) => ?_)
        · refine ex_st 5 (pc' := 7) (ls' := [(2, xi 1), (0, xr 1), (1, xi x)]) (st' := [xi (I 1 4), xi 1]) rfl ?_
          rw [hq1]
          refine ex_st 1 (pc' := 28) (ls' := [(2, xi 1), (0, xr 1), (1, xi x)]) (st' := []) rfl ?_
          refine ex_st 2 (pc' := 32) (ls' := [(2, xi 1), (0, xr 1), (1, xi x)]) (st' := [xi (I 1 4)]) rfl ?_
          rw [hq1]
          refine ex_st 1 (pc' := 33) (ls' := [(2, xi 1), (0, xr 1), (1, xi x)]) (st' := [xi 5, xi 1]) rfl ?_
          refine ex_st 1 (pc' := 38) (ls' := [(2, xi 1), (0, xr 1), (1, xi x)]) (st' := []) rfl ?_
          refine ex_st 4 (pc' := 46) (ls' := [(2, xi 1), (0, xr 1), (1, xi x)]) (st' := [xi (I 1 4), xr 4]) rfl ?_
          rw [hq1]
          refine ex_st 1 (pc' := 47) (ls' := [(2, xi 1), (0, xr 1), (1, xi x)]) (st' := [xi x, xi 1, xr 4]) rfl ?_
          refine ex_iast (j := 1) rfl (by decide) (rfl : xSH[4]? = some _) (by decide) (by decide) (by decide) ?_
          refine ex_st 3 (pc' := 53) (ls' := [(2, xi 1), (0, xr 1), (1, xi x)]) (st' := [xi ((x_up I 4 1 x) 1 4), xr 1]) rfl ?_
          rw [(x_up_far (by first | decide | omega) : (x_up I 4 1 x) 1 4 = I 1 4)]
          rw [hq1]
          refine ex_st 2 (pc' := 55) (ls' := [(2, xi 1), (0, xr 1), (1, xi x)]) (st' := [xi 2, xr 1]) rfl ?_
          refine ex_pfi rfl (by decide) (rfl : xSH[1]? = some _) (by decide) rfl (by decide) (fun h => by cases h) ?_
          refine ex_st 1 (pc' := 59) (ls' := [(2, xi 1), (0, xr 1), (1, xi x)]) (st' := [xi 1]) rfl ?_
          refine ex_retz rfl (Or.inr rfl) rfl ?_
          refine ex_st 1 (pc' := 35) (ls' := [(0, xr 0), (1, xi x)]) (st' := []) rfl ?_
          refine ex_st 3 (pc' := 42) (ls' := [(0, xr 0), (1, xi x)]) (st' := [xi ((x_up (x_up I 4 1 x) 1 4 2) 1 4)]) rfl ?_
          rw [x_up_at (x_up I 4 1 x) 1 4 2]
          refine ex_st 1 (pc' := 47) (ls' := [(0, xr 0), (1, xi x)]) (st' := [xi 2]) rfl ?_
          refine ex_reti rfl rfl ?_
          refine x_CQ.of (M := xM_m_put) rfl (Nat.le_of_ble_eq_true rfl) ?_
          refine ex_st 2 (pc' := 2) (ls' := [(0, xr 143), (1, xi x)]) (st' := [xi (-1), xi x]) rfl ?_
          refine ex_ic rfl (by first | omega | (constructor <;> omega) | assumption) (by decide) (fun (h3 : ¬ x = (-1)) => ?_) (fun (h3 : ¬ ¬ x = (-1)) => ?_)
          · refine ex_st 2 (pc' := 14) (ls' := [(0, xr 143), (1, xi x)]) (st' := [xi x, xr 143]) rfl ?_
            refine ex_call (ct_m_isThing (by first | omega | (constructor <;> omega) | assumption)) (by decide) rfl ⟨rfl, rfl, rfl⟩ ⟨Nat.le_of_ble_eq_true rfl, rfl, rfl⟩ (Nat.le_of_ble_eq_true rfl) rfl ?_
            refine ex_bne rfl (fun h4 => ?_) (fun h4 => ?_)
            · refine ex_st 5 (pc' := 29) (ls' := [(2, xi 0), (0, xr 143), (1, xi x)]) (st' := [xi ((x_up (x_up I 4 1 x) 1 4 2) 143 2), xi 0]) rfl ?_
              rw [(x_up_far (by first | decide | omega) : (x_up (x_up I 4 1 x) 1 4 2) 143 2 = (x_up I 4 1 x) 143 2)]
              rw [(x_up_far (by first | decide | omega) : (x_up I 4 1 x) 143 2 = I 143 2)]
              rw [hq0]
              refine ex_st 1 (pc' := 32) (ls' := [(2, xi 0), (0, xr 143), (1, xi x)]) (st' := []) rfl ?_
              refine ex_st 3 (pc' := 37) (ls' := [(2, xi 0), (0, xr 143), (1, xi x)]) (st' := [xi 0, xr 150]) rfl ?_
              refine ex_iald (j := 0) rfl (by decide) (rfl : xSH[150]? = some _) (by decide) (by decide) (by decide) ?_
              rw [(x_up_far (by first | decide | omega) : (x_up (x_up I 4 1 x) 1 4 2) 150 0 = (x_up I 4 1 x) 150 0)]
              rw [(x_up_far (by first | decide | omega) : (x_up I 4 1 x) 150 0 = I 150 0)]
              refine ex_st 1 (pc' := 39) (ls' := [(2, xi 0), (0, xr 143), (1, xi x)]) (st' := [xi x, xi (I 150 0)]) rfl ?_
              refine ex_ic rfl (by first | omega | (constructor <;> omega) | assumption) (by first | omega | (constructor <;> omega) | assumption) (fun (h5 : ¬ (I 150 0) = x) => ?_) (fun (h5 : ¬ ¬ (I 150 0) = x) => ?_)
              · refine ex_st 5 (pc' := 29) (ls' := [(2, xi 1), (0, xr 143), (1, xi x)]) (st' := [xi ((x_up (x_up I 4 1 x) 1 4 2) 143 2), xi 1]) rfl ?_
                rw [(x_up_far (by first | decide | omega) : (x_up (x_up I 4 1 x) 1 4 2) 143 2 = (x_up I 4 1 x) 143 2)]
                rw [(x_up_far (by first | decide | omega) : (x_up I 4 1 x) 143 2 = I 143 2)]
                rw [hq0]
                refine ex_st 1 (pc' := 51) (ls' := [(2, xi 1), (0, xr 143), (1, xi x)]) (st' := []) rfl ?_
                refine ex_st 4 (pc' := 59) (ls' := [(2, xi 1), (0, xr 143), (1, xi x)]) (st' := [xi ((x_up (x_up I 4 1 x) 1 4 2) 143 2), xr 150]) rfl ?_
                rw [(x_up_far (by first | decide | omega) : (x_up (x_up I 4 1 x) 1 4 2) 143 2 = (x_up I 4 1 x) 143 2)]
                rw [(x_up_far (by first | decide | omega) : (x_up I 4 1 x) 143 2 = I 143 2)]
                rw [hq0]
                refine ex_st 1 (pc' := 60) (ls' := [(2, xi 1), (0, xr 143), (1, xi x)]) (st' := [xi x, xi 1, xr 150]) rfl ?_
                refine ex_iast (j := 1) rfl (by decide) (rfl : xSH[150]? = some _) (by decide) (by decide) (by decide) ?_
                refine ex_st 3 (pc' := 66) (ls' := [(2, xi 1), (0, xr 143), (1, xi x)]) (st' := [xi ((x_up (x_up (x_up I 4 1 x) 1 4 2) 150 1 x) 143 2), xr 143]) rfl ?_
                rw [(x_up_far (by first | decide | omega) : (x_up (x_up (x_up I 4 1 x) 1 4 2) 150 1 x) 143 2 = (x_up (x_up I 4 1 x) 1 4 2) 143 2)]
                rw [(x_up_far (by first | decide | omega) : (x_up (x_up I 4 1 x) 1 4 2) 143 2 = (x_up I 4 1 x) 143 2)]
                rw [(x_up_far (by first | decide | omega) : (x_up I 4 1 x) 143 2 = I 143 2)]
                rw [hq0]
                refine ex_st 2 (pc' := 68) (ls' := [(2, xi 1), (0, xr 143), (1, xi x)]) (st' := [xi 2, xr 143]) rfl ?_
                refine ex_pfi rfl (by decide) (rfl : xSH[143]? = some _) (by decide) rfl (by decide) (fun h => by cases h) ?_
                refine ex_st 2 (pc' := 75) (ls' := [(2, xi 1), (0, xr 143), (1, xi x)]) (st' := [xi ((x_up (x_up (x_up (x_up I 4 1 x) 1 4 2) 150 1 x) 143 2 2) 143 2)]) rfl ?_
                rw [x_up_at (x_up (x_up (x_up I 4 1 x) 1 4 2) 150 1 x) 143 2 2]
                refine ex_reti rfl rfl ?_
                refine ⟨x_req (by first | rfl | omega), ?_⟩
                have hno : ∀ y : Nat, y < 1 → I 150 y ≠ x := by
                  intro y hy
                  have h4 := g4 y (by omega)
                  rcases (show y = 0 by omega) with rfl <;> omega
                refine ⟨_, _, rfl, ?_⟩
                generalize hM : (x_up (x_up (x_up (x_up I 4 1 x) 1 4 2) 150 1 x) 143 2 2) = I2
                have hF : ∀ k j, ¬ ((k = 143 ∧ j = 2) ∨ (k = 150 ∧ j = 1) ∨ (k = 1 ∧ j = 4) ∨ (k = 4 ∧ j = 1)) → I2 k j = I k j := by intro k j hk; rw [← hM]; (repeat rw [x_up_far (by omega)])
                have hw0 : I2 143 2 = 2 := by rw [← hM]; (repeat (first | rw [x_up_far (by omega)] | rw [x_up_at2 (by omega) (by omega)]))
                have hw1 : I2 150 1 = x := by rw [← hM]; (repeat (first | rw [x_up_far (by omega)] | rw [x_up_at2 (by omega) (by omega)]))
                have hw2 : I2 1 4 = 2 := by rw [← hM]; (repeat (first | rw [x_up_far (by omega)] | rw [x_up_at2 (by omega) (by omega)]))
                have hw3 : I2 4 1 = x := by rw [← hM]; (repeat (first | rw [x_up_far (by omega)] | rw [x_up_at2 (by omega) (by omega)]))
                clear hM
                have hI2 : RIw I2 := by
                  obtain ⟨gs, go, ga, gb, gr, gd, gg, ge, gp, gk⟩ := id hI
                  exact ⟨gs.fr ⟨by (repeat rw [hF _ _ (by omega)]); try rfl, by (repeat rw [hF _ _ (by omega)]); try rfl, by (repeat rw [hF _ _ (by omega)]); try rfl, by (repeat rw [hF _ _ (by omega)]); try rfl, by (repeat rw [hF _ _ (by omega)]); try rfl, by (repeat rw [hF _ _ (by omega)]); try rfl, by (repeat rw [hF _ _ (by omega)]); try rfl, by (repeat rw [hF _ _ (by omega)]); try rfl, by (repeat rw [hF _ _ (by omega)]); try rfl⟩, go.fr (by intros; (repeat rw [hF _ _ (by omega)]); try rfl) (by intros; (repeat rw [hF _ _ (by omega)]); try rfl), ga.fr (by intros; (repeat rw [hF _ _ (by omega)]); try rfl) (by (repeat rw [hF _ _ (by omega)]); try rfl), gb.fr (by intros; (repeat rw [hF _ _ (by omega)]); try rfl) (by intros; (repeat rw [hF _ _ (by omega)]); try rfl), gr.fr (by intros; (repeat rw [hF _ _ (by omega)]); try rfl) (by intros; (repeat rw [hF _ _ (by omega)]); try rfl), gd.fr (by intros; (repeat rw [hF _ _ (by omega)]); try rfl) (by intros; (repeat rw [hF _ _ (by omega)]); try rfl) (by (repeat rw [hF _ _ (by omega)]); try rfl), gg.fr ⟨by (repeat rw [hF _ _ (by omega)]); try rfl, by (repeat rw [hF _ _ (by omega)]); try rfl⟩ (by intros; (repeat rw [hF _ _ (by omega)]); try rfl) (by intros; (repeat rw [hF _ _ (by omega)]); try rfl), ge.fr ⟨by (repeat rw [hF _ _ (by omega)]); try rfl, by (repeat rw [hF _ _ (by omega)]); try rfl, by (repeat rw [hF _ _ (by omega)]); try rfl⟩ (by intros; (repeat rw [hF _ _ (by omega)]); try rfl) (by intros; (repeat rw [hF _ _ (by omega)]); try rfl), gp.fr ⟨by (repeat rw [hF _ _ (by omega)]); try rfl, by (repeat rw [hF _ _ (by omega)]); try rfl, by (repeat rw [hF _ _ (by omega)]); try rfl⟩ (by intros; (repeat rw [hF _ _ (by omega)]); try rfl) (by intros; (repeat rw [hF _ _ (by omega)]); try rfl), gk.fr ⟨by (repeat rw [hF _ _ (by omega)]); try rfl, by (repeat rw [hF _ _ (by omega)]); try rfl, by (repeat rw [hF _ _ (by omega)]); try rfl⟩ (by intros; (repeat rw [hF _ _ (by omega)]); try rfl) (by intros; (repeat rw [hF _ _ (by omega)]); try rfl)⟩
                refine ⟨⟨hNs.fr ⟨by (repeat rw [hF _ _ (by omega)]); try rfl, by (repeat rw [hF _ _ (by omega)]); try rfl, by (repeat rw [hF _ _ (by omega)]); try rfl, by (repeat rw [hF _ _ (by omega)]); try rfl, by (repeat rw [hF _ _ (by omega)]); try rfl, by (repeat rw [hF _ _ (by omega)]); try rfl, by (repeat rw [hF _ _ (by omega)]); try rfl, by (repeat rw [hF _ _ (by omega)]); try rfl, by (repeat rw [hF _ _ (by omega)]); try rfl⟩, hNo.fr (by intros; (repeat rw [hF _ _ (by omega)]); try rfl) (by intros; (repeat rw [hF _ _ (by omega)]); try rfl), hNa.fr (by intros; (repeat rw [hF _ _ (by omega)]); try rfl) (by (repeat rw [hF _ _ (by omega)]); try rfl), hNb.fr (by intros; (repeat rw [hF _ _ (by omega)]); try rfl) (by intros; (repeat rw [hF _ _ (by omega)]); try rfl), hNr.fr (by intros; (repeat rw [hF _ _ (by omega)]); try rfl) (by intros; (repeat rw [hF _ _ (by omega)]); try rfl), hNd.fr (by intros; (repeat rw [hF _ _ (by omega)]); try rfl) (by intros; (repeat rw [hF _ _ (by omega)]); try rfl) (by (repeat rw [hF _ _ (by omega)]); try rfl), ?_, hNe.fr ⟨by (repeat rw [hF _ _ (by omega)]); try rfl, by (repeat rw [hF _ _ (by omega)]); try rfl, by (repeat rw [hF _ _ (by omega)]); try rfl⟩ (by intros; (repeat rw [hF _ _ (by omega)]); try rfl) (by intros; (repeat rw [hF _ _ (by omega)]); try rfl), hNp.fr ⟨by (repeat rw [hF _ _ (by omega)]); try rfl, by (repeat rw [hF _ _ (by omega)]); try rfl, by (repeat rw [hF _ _ (by omega)]); try rfl⟩ (by intros; (repeat rw [hF _ _ (by omega)]); try rfl) (by intros; (repeat rw [hF _ _ (by omega)]); try rfl), hNk.fr ⟨by (repeat rw [hF _ _ (by omega)]); try rfl, by (repeat rw [hF _ _ (by omega)]); try rfl, by (repeat rw [hF _ _ (by omega)]); try rfl⟩ (by intros; (repeat rw [hF _ _ (by omega)]); try rfl) (by intros; (repeat rw [hF _ _ (by omega)]); try rfl)⟩, hI2, hT.fr ⟨by (repeat rw [hF _ _ (by omega)]); try rfl, by (repeat rw [hF _ _ (by omega)]); try rfl⟩ (by intros; (repeat rw [hF _ _ (by omega)]); try rfl) (by intros; (repeat rw [hF _ _ (by omega)]); try rfl) (by intros; (repeat rw [hF _ _ (by omega)]); try rfl), hX.fr ⟨by (repeat rw [hF _ _ (by omega)]); try rfl, by (repeat rw [hF _ _ (by omega)]); try rfl⟩ (by intros; (repeat rw [hF _ _ (by omega)]); try rfl), hC.fr ⟨by (repeat rw [hF _ _ (by omega)]); try rfl, by (repeat rw [hF _ _ (by omega)]); try rfl⟩ (by intros; (repeat rw [hF _ _ (by omega)]); try rfl), hH.fr ⟨by (repeat rw [hF _ _ (by omega)]); try rfl, by (repeat rw [hF _ _ (by omega)]); try rfl, by (repeat rw [hF _ _ (by omega)]); try rfl⟩ (by intros; (repeat rw [hF _ _ (by omega)]); try rfl) (by intros; (repeat rw [hF _ _ (by omega)]); try rfl), hQ.fr (by intros; (repeat rw [hF _ _ (by omega)]); try rfl) (by intros; (repeat rw [hF _ _ (by omega)]); try rfl) (by intros; (repeat rw [hF _ _ (by omega)]); try rfl) (by intros; (repeat rw [hF _ _ (by omega)]); try rfl)⟩
                · refine ⟨by (repeat (first | rw [hw0] | rw [hw1] | rw [hw2] | rw [hw3] | rw [hF _ _ (by omega)])), by (repeat (first | rw [hw0] | rw [hw1] | rw [hw2] | rw [hw3] | rw [hF _ _ (by omega)])); omega, by (repeat (first | rw [hw0] | rw [hw1] | rw [hw2] | rw [hw3] | rw [hF _ _ (by omega)])); omega, fun y hy => ?_, fun y hy => ?_, fun y z hyz hz => ?_⟩
                  · by_cases e : y = 1
                    · subst e; (repeat (first | rw [hw0] | rw [hw1] | rw [hw2] | rw [hw3] | rw [hF _ _ (by omega)]))
                    · (repeat (first | rw [hw0] | rw [hw1] | rw [hw2] | rw [hw3] | rw [hF _ _ (by omega)])); exact g4 y hy
                  · rw [hw0] at hy; by_cases e : y = 1
                    · subst e; (repeat (first | rw [hw0] | rw [hw1] | rw [hw2] | rw [hw3] | rw [hF _ _ (by omega)])); omega
                    · have h := g5 y (by omega); (repeat (first | rw [hw0] | rw [hw1] | rw [hw2] | rw [hw3] | rw [hF _ _ (by omega)])); exact h
                  · rw [hw0] at hz; by_cases e : z = 1
                    · subst e; have h := hno y (by omega); (repeat (first | rw [hw0] | rw [hw1] | rw [hw2] | rw [hw3] | rw [hF _ _ (by omega)])); exact h
                    · have h := g6 y z hyz (by omega); (repeat (first | rw [hw0] | rw [hw1] | rw [hw2] | rw [hw3] | rw [hF _ _ (by omega)])); exact h
              · exfalso; omega
            · exfalso; omega
          · exfalso; omega
        · refine ex_st 1 (pc' := 21) (ls' := [(2, xi 0), (0, xr 1), (1, xi x)]) (st' := [xi 0]) rfl ?_
          refine ex_retz rfl (Or.inl rfl) rfl ?_
          refine ex_st 1 (pc' := 45) (ls' := [(0, xr 0), (1, xi x)]) (st' := []) rfl ?_
          refine ex_st 1 (pc' := 47) (ls' := [(0, xr 0), (1, xi x)]) (st' := [xi (-3)]) rfl ?_
          refine ex_reti rfl rfl ?_
          refine x_CQ.of (M := xM_m_put) rfl (Nat.le_of_ble_eq_true rfl) ?_
          refine ex_st 2 (pc' := 2) (ls' := [(0, xr 143), (1, xi x)]) (st' := [xi (-1), xi x]) rfl ?_
          refine ex_ic rfl (by first | omega | (constructor <;> omega) | assumption) (by decide) (fun (h6 : ¬ x = (-1)) => ?_) (fun (h6 : ¬ ¬ x = (-1)) => ?_)
          · refine ex_st 2 (pc' := 14) (ls' := [(0, xr 143), (1, xi x)]) (st' := [xi x, xr 143]) rfl ?_
            refine ex_call (ct_m_isThing (by first | omega | (constructor <;> omega) | assumption)) (by decide) rfl ⟨rfl, rfl, rfl⟩ ⟨Nat.le_of_ble_eq_true rfl, rfl, rfl⟩ (Nat.le_of_ble_eq_true rfl) rfl ?_
            refine ex_bne rfl (fun h7 => ?_) (fun h7 => ?_)
            · refine ex_st 5 (pc' := 29) (ls' := [(2, xi 0), (0, xr 143), (1, xi x)]) (st' := [xi (I 143 2), xi 0]) rfl ?_
              rw [hq0]
              refine ex_st 1 (pc' := 32) (ls' := [(2, xi 0), (0, xr 143), (1, xi x)]) (st' := []) rfl ?_
              refine ex_st 3 (pc' := 37) (ls' := [(2, xi 0), (0, xr 143), (1, xi x)]) (st' := [xi 0, xr 150]) rfl ?_
              refine ex_iald (j := 0) rfl (by decide) (rfl : xSH[150]? = some _) (by decide) (by decide) (by decide) ?_
              refine ex_st 1 (pc' := 39) (ls' := [(2, xi 0), (0, xr 143), (1, xi x)]) (st' := [xi x, xi (I 150 0)]) rfl ?_
              refine ex_ic rfl (by first | omega | (constructor <;> omega) | assumption) (by first | omega | (constructor <;> omega) | assumption) (fun (h8 : ¬ (I 150 0) = x) => ?_) (fun (h8 : ¬ ¬ (I 150 0) = x) => ?_)
              · exfalso; omega
              · refine ex_st 1 (pc' := 44) (ls' := [(2, xi 0), (0, xr 143), (1, xi x)]) (st' := [xi (-3)]) rfl ?_
                refine ex_reti rfl rfl ?_
                exact ⟨x_req (by first | rfl | omega), _, _, rfl, hR⟩
            · exfalso; omega
          · exfalso; omega
      · refine ex_st 1 (pc' := 23) (ls' := [(0, xr 0), (1, xi x)]) (st' := [xi (-1)]) rfl ?_
        refine ex_reti rfl rfl ?_
        refine x_CQ.of (M := xM_m_put) rfl (Nat.le_of_ble_eq_true rfl) ?_
        refine ex_st 2 (pc' := 2) (ls' := [(0, xr 143), (1, xi x)]) (st' := [xi (-1), xi x]) rfl ?_
        refine ex_ic rfl (by first | omega | (constructor <;> omega) | assumption) (by decide) (fun (h9 : ¬ x = (-1)) => ?_) (fun (h9 : ¬ ¬ x = (-1)) => ?_)
        · refine ex_st 2 (pc' := 14) (ls' := [(0, xr 143), (1, xi x)]) (st' := [xi x, xr 143]) rfl ?_
          refine ex_call (ct_m_isThing (by first | omega | (constructor <;> omega) | assumption)) (by decide) rfl ⟨rfl, rfl, rfl⟩ ⟨Nat.le_of_ble_eq_true rfl, rfl, rfl⟩ (Nat.le_of_ble_eq_true rfl) rfl ?_
          refine ex_bne rfl (fun h10 => ?_) (fun h10 => ?_)
          · exfalso; omega
          · refine ex_st 1 (pc' := 21) (ls' := [(0, xr 143), (1, xi x)]) (st' := [xi (-1)]) rfl ?_
            refine ex_reti rfl rfl ?_
            exact ⟨x_req (by first | rfl | omega), _, _, rfl, hR⟩
        · exfalso; omega
    · refine ex_st 3 (pc' := 10) (ls' := [(0, xr 0), (1, xi x)]) (st' := [xi 0, xr 1]) rfl ?_
      refine ex_pfi rfl (by decide) (rfl : xSH[1]? = some _) (by decide) rfl (by decide) (fun h => by cases h) ?_
      refine ex_st 1 (pc' := 14) (ls' := [(0, xr 0), (1, xi x)]) (st' := [xi 0]) rfl ?_
      refine ex_reti rfl rfl ?_
      refine x_CQ.of (M := xM_m_put) rfl (Nat.le_of_ble_eq_true rfl) ?_
      refine ex_st 2 (pc' := 2) (ls' := [(0, xr 143), (1, xi x)]) (st' := [xi (-1), xi x]) rfl ?_
      refine ex_ic rfl (by first | omega | (constructor <;> omega) | assumption) (by decide) (fun (h11 : ¬ x = (-1)) => ?_) (fun (h11 : ¬ ¬ x = (-1)) => ?_)
      · exfalso; omega
      · refine ex_st 2 (pc' := 7) (ls' := [(0, xr 143), (1, xi x)]) (st' := [xi 0, xr 143]) rfl ?_
        refine ex_pfi rfl (by decide) (rfl : xSH[143]? = some _) (by decide) rfl (by decide) (fun h => by cases h) ?_
        refine ex_st 1 (pc' := 11) (ls' := [(0, xr 143), (1, xi x)]) (st' := [xi 0]) rfl ?_
        refine ex_reti rfl rfl ?_
        refine ⟨x_req (by first | rfl | omega), ?_⟩
        refine ⟨_, _, rfl, ?_⟩
        generalize hM : (x_up (x_up I 1 4 0) 143 2 0) = I2
        have hF : ∀ k j, ¬ ((k = 143 ∧ j = 2) ∨ (k = 1 ∧ j = 4)) → I2 k j = I k j := by intro k j hk; rw [← hM]; (repeat rw [x_up_far (by omega)])
        have hw0 : I2 143 2 = 0 := by rw [← hM]; (repeat (first | rw [x_up_far (by omega)] | rw [x_up_at2 (by omega) (by omega)]))
        have hw1 : I2 1 4 = 0 := by rw [← hM]; (repeat (first | rw [x_up_far (by omega)] | rw [x_up_at2 (by omega) (by omega)]))
        clear hM
        have hI2 : RIw I2 := by
          obtain ⟨gs, go, ga, gb, gr, gd, gg, ge, gp, gk⟩ := id hI
          exact ⟨gs.fr ⟨by (repeat rw [hF _ _ (by omega)]); try rfl, by (repeat rw [hF _ _ (by omega)]); try rfl, by (repeat rw [hF _ _ (by omega)]); try rfl, by (repeat rw [hF _ _ (by omega)]); try rfl, by (repeat rw [hF _ _ (by omega)]); try rfl, by (repeat rw [hF _ _ (by omega)]); try rfl, by (repeat rw [hF _ _ (by omega)]); try rfl, by (repeat rw [hF _ _ (by omega)]); try rfl, by (repeat rw [hF _ _ (by omega)]); try rfl⟩, go.fr (by intros; (repeat rw [hF _ _ (by omega)]); try rfl) (by intros; (repeat rw [hF _ _ (by omega)]); try rfl), ga.fr (by intros; (repeat rw [hF _ _ (by omega)]); try rfl) (by (repeat rw [hF _ _ (by omega)]); try rfl), gb.fr (by intros; (repeat rw [hF _ _ (by omega)]); try rfl) (by intros; (repeat rw [hF _ _ (by omega)]); try rfl), gr.fr (by intros; (repeat rw [hF _ _ (by omega)]); try rfl) (by intros; (repeat rw [hF _ _ (by omega)]); try rfl), gd.fr (by intros; (repeat rw [hF _ _ (by omega)]); try rfl) (by intros; (repeat rw [hF _ _ (by omega)]); try rfl) (by (repeat rw [hF _ _ (by omega)]); try rfl), gg.fr ⟨by (repeat rw [hF _ _ (by omega)]); try rfl, by (repeat rw [hF _ _ (by omega)]); try rfl⟩ (by intros; (repeat rw [hF _ _ (by omega)]); try rfl) (by intros; (repeat rw [hF _ _ (by omega)]); try rfl), ge.fr ⟨by (repeat rw [hF _ _ (by omega)]); try rfl, by (repeat rw [hF _ _ (by omega)]); try rfl, by (repeat rw [hF _ _ (by omega)]); try rfl⟩ (by intros; (repeat rw [hF _ _ (by omega)]); try rfl) (by intros; (repeat rw [hF _ _ (by omega)]); try rfl), gp.fr ⟨by (repeat rw [hF _ _ (by omega)]); try rfl, by (repeat rw [hF _ _ (by omega)]); try rfl, by (repeat rw [hF _ _ (by omega)]); try rfl⟩ (by intros; (repeat rw [hF _ _ (by omega)]); try rfl) (by intros; (repeat rw [hF _ _ (by omega)]); try rfl), gk.fr ⟨by (repeat rw [hF _ _ (by omega)]); try rfl, by (repeat rw [hF _ _ (by omega)]); try rfl, by (repeat rw [hF _ _ (by omega)]); try rfl⟩ (by intros; (repeat rw [hF _ _ (by omega)]); try rfl) (by intros; (repeat rw [hF _ _ (by omega)]); try rfl)⟩
        refine ⟨⟨hNs.fr ⟨by (repeat rw [hF _ _ (by omega)]); try rfl, by (repeat rw [hF _ _ (by omega)]); try rfl, by (repeat rw [hF _ _ (by omega)]); try rfl, by (repeat rw [hF _ _ (by omega)]); try rfl, by (repeat rw [hF _ _ (by omega)]); try rfl, by (repeat rw [hF _ _ (by omega)]); try rfl, by (repeat rw [hF _ _ (by omega)]); try rfl, by (repeat rw [hF _ _ (by omega)]); try rfl, by (repeat rw [hF _ _ (by omega)]); try rfl⟩, hNo.fr (by intros; (repeat rw [hF _ _ (by omega)]); try rfl) (by intros; (repeat rw [hF _ _ (by omega)]); try rfl), hNa.fr (by intros; (repeat rw [hF _ _ (by omega)]); try rfl) (by (repeat rw [hF _ _ (by omega)]); try rfl), hNb.fr (by intros; (repeat rw [hF _ _ (by omega)]); try rfl) (by intros; (repeat rw [hF _ _ (by omega)]); try rfl), hNr.fr (by intros; (repeat rw [hF _ _ (by omega)]); try rfl) (by intros; (repeat rw [hF _ _ (by omega)]); try rfl), hNd.fr (by intros; (repeat rw [hF _ _ (by omega)]); try rfl) (by intros; (repeat rw [hF _ _ (by omega)]); try rfl) (by (repeat rw [hF _ _ (by omega)]); try rfl), ?_, hNe.fr ⟨by (repeat rw [hF _ _ (by omega)]); try rfl, by (repeat rw [hF _ _ (by omega)]); try rfl, by (repeat rw [hF _ _ (by omega)]); try rfl⟩ (by intros; (repeat rw [hF _ _ (by omega)]); try rfl) (by intros; (repeat rw [hF _ _ (by omega)]); try rfl), hNp.fr ⟨by (repeat rw [hF _ _ (by omega)]); try rfl, by (repeat rw [hF _ _ (by omega)]); try rfl, by (repeat rw [hF _ _ (by omega)]); try rfl⟩ (by intros; (repeat rw [hF _ _ (by omega)]); try rfl) (by intros; (repeat rw [hF _ _ (by omega)]); try rfl), hNk.fr ⟨by (repeat rw [hF _ _ (by omega)]); try rfl, by (repeat rw [hF _ _ (by omega)]); try rfl, by (repeat rw [hF _ _ (by omega)]); try rfl⟩ (by intros; (repeat rw [hF _ _ (by omega)]); try rfl) (by intros; (repeat rw [hF _ _ (by omega)]); try rfl)⟩, hI2, hT.fr ⟨by (repeat rw [hF _ _ (by omega)]); try rfl, by (repeat rw [hF _ _ (by omega)]); try rfl⟩ (by intros; (repeat rw [hF _ _ (by omega)]); try rfl) (by intros; (repeat rw [hF _ _ (by omega)]); try rfl) (by intros; (repeat rw [hF _ _ (by omega)]); try rfl), hX.fr ⟨by (repeat rw [hF _ _ (by omega)]); try rfl, by (repeat rw [hF _ _ (by omega)]); try rfl⟩ (by intros; (repeat rw [hF _ _ (by omega)]); try rfl), hC.fr ⟨by (repeat rw [hF _ _ (by omega)]); try rfl, by (repeat rw [hF _ _ (by omega)]); try rfl⟩ (by intros; (repeat rw [hF _ _ (by omega)]); try rfl), hH.fr ⟨by (repeat rw [hF _ _ (by omega)]); try rfl, by (repeat rw [hF _ _ (by omega)]); try rfl, by (repeat rw [hF _ _ (by omega)]); try rfl⟩ (by intros; (repeat rw [hF _ _ (by omega)]); try rfl) (by intros; (repeat rw [hF _ _ (by omega)]); try rfl), hQ.fr (by intros; (repeat rw [hF _ _ (by omega)]); try rfl) (by intros; (repeat rw [hF _ _ (by omega)]); try rfl) (by intros; (repeat rw [hF _ _ (by omega)]); try rfl) (by intros; (repeat rw [hF _ _ (by omega)]); try rfl)⟩
        · refine ⟨by (repeat (first | rw [hw0] | rw [hw1] | rw [hF _ _ (by omega)])), by (repeat (first | rw [hw0] | rw [hw1] | rw [hF _ _ (by omega)])); omega, by (repeat (first | rw [hw0] | rw [hw1] | rw [hF _ _ (by omega)])); omega, fun y hy => by (repeat (first | rw [hw0] | rw [hw1] | rw [hF _ _ (by omega)])); exact g4 y hy, fun y hy => ?_, fun y z hyz hz => ?_⟩ <;> (exfalso; rw [hw0] at *; omega)
  · have hq0 : I 143 2 = 2 := by omega
    have hq1 : I 1 4 = 2 := by omega
    have e0 := g4 0 (by decide)
    have e1 := g4 1 (by decide)
    have r0 := g5 0 (by omega)
    have r1 := g5 1 (by omega)
    refine x_CQ.of (M := xM_G_put) rfl (Nat.le_of_ble_eq_true rfl) ?_
    refine ex_st 2 (pc' := 2) (ls' := [(0, xr 0), (1, xi x)]) (st' := [xi (-1), xi x]) rfl ?_
    refine ex_ic rfl (by first | omega | (constructor <;> omega) | assumption) (by decide) (fun (h0 : ¬ x = (-1)) => ?_) (fun (h0 : ¬ ¬ x = (-1)) => ?_)
    · refine ex_st 1 (pc' := 16) (ls' := [(0, xr 0), (1, xi x)]) (st' := [xi x]) rfl ?_
      refine ex_call (ct_G_isThing (by first | omega | (constructor <;> omega) | assumption)) (by decide) rfl ⟨rfl, rfl, rfl⟩ ⟨Nat.le_of_ble_eq_true rfl, rfl, rfl⟩ (Nat.le_of_ble_eq_true rfl) rfl ?_
      refine ex_bne rfl (fun h1 => ?_) (fun h1 => ?_)
      · refine ex_st 3 (pc' := 29) (ls' := [(0, xr 0), (1, xi x)]) (st' := [xi x, xr 1]) rfl ?_
        refine ex_inl (M' := xM_W_putOnAgenda) (as := [xr 1, xi x]) (rest := []) (D' := 28) rfl (Nat.le_of_ble_eq_true rfl) (by decide) rfl ⟨rfl, rfl, rfl⟩ ⟨Nat.le_of_ble_eq_true rfl, rfl, rfl⟩ (Nat.le_of_ble_eq_true rfl) rfl ?_
        refine ex_st 5 (pc' := 7) (ls' := [(2, xi 0), (0, xr 1), (1, xi x)]) (st' := [xi (I 1 4), xi 0]) rfl ?_
        rw [hq1]
        refine ex_st 1 (pc' := 10) (ls' := [(2, xi 0), (0, xr 1), (1, xi x)]) (st' := []) rfl ?_
        refine ex_st 3 (pc' := 15) (ls' := [(2, xi 0), (0, xr 1), (1, xi x)]) (st' := [xi 0, xr 4]) rfl ?_
        refine ex_iald (j := 0) rfl (by decide) (rfl : xSH[4]? = some _) (by decide) (by decide) (by decide) ?_
        refine ex_st 1 (pc' := 17) (ls' := [(2, xi 0), (0, xr 1), (1, xi x)]) (st' := [xi x, xi (I 4 0)]) rfl ?_
        refine ex_ic rfl (by first | omega | (constructor <;> omega) | assumption) (by first | omega | (constructor <;> omega) | assumption) (fun (h2 : ¬ (I 4 0) = x) => ?_) (fun (h2 : ¬ ¬ (I 4 0) = x) => ?_)
        · refine ex_st 5 (pc' := 7) (ls' := [(2, xi 1), (0, xr 1), (1, xi x)]) (st' := [xi (I 1 4), xi 1]) rfl ?_
          rw [hq1]
          refine ex_st 1 (pc' := 10) (ls' := [(2, xi 1), (0, xr 1), (1, xi x)]) (st' := []) rfl ?_
          refine ex_st 3 (pc' := 15) (ls' := [(2, xi 1), (0, xr 1), (1, xi x)]) (st' := [xi 1, xr 4]) rfl ?_
          refine ex_iald (j := 1) rfl (by decide) (rfl : xSH[4]? = some _) (by decide) (by decide) (by decide) ?_
          refine ex_st 1 (pc' := 17) (ls' := [(2, xi 1), (0, xr 1), (1, xi x)]) (st' := [xi x, xi (I 4 1)]) rfl ?_
          refine ex_ic rfl (by first | omega | (constructor <;> omega) | assumption) (by first | omega | (constructor <;> omega) | assumption) (fun (h3 : ¬ (I 4 1) = x) => ?_) (fun (h3 : ¬ ¬ (I 4 1) = x) => ?_)
          · refine ex_st 5 (pc' := 7) (ls' := [(2, xi 2), (0, xr 1), (1, xi x)]) (st' := [xi (I 1 4), xi 2]) rfl ?_
            rw [hq1]
            refine ex_st 1 (pc' := 28) (ls' := [(2, xi 2), (0, xr 1), (1, xi x)]) (st' := []) rfl ?_
            refine ex_st 2 (pc' := 32) (ls' := [(2, xi 2), (0, xr 1), (1, xi x)]) (st' := [xi (I 1 4)]) rfl ?_
            rw [hq1]
            refine ex_st 1 (pc' := 33) (ls' := [(2, xi 2), (0, xr 1), (1, xi x)]) (st' := [xi 5, xi 2]) rfl ?_
            refine ex_st 1 (pc' := 38) (ls' := [(2, xi 2), (0, xr 1), (1, xi x)]) (st' := []) rfl ?_
            refine ex_st 4 (pc' := 46) (ls' := [(2, xi 2), (0, xr 1), (1, xi x)]) (st' := [xi (I 1 4), xr 4]) rfl ?_
            rw [hq1]
            refine ex_st 1 (pc' := 47) (ls' := [(2, xi 2), (0, xr 1), (1, xi x)]) (st' := [xi x, xi 2, xr 4]) rfl ?_
            refine ex_iast (j := 2) rfl (by decide) (rfl : xSH[4]? = some _) (by decide) (by decide) (by decide) ?_
            refine ex_st 3 (pc' := 53) (ls' := [(2, xi 2), (0, xr 1), (1, xi x)]) (st' := [xi ((x_up I 4 2 x) 1 4), xr 1]) rfl ?_
            rw [(x_up_far (by first | decide | omega) : (x_up I 4 2 x) 1 4 = I 1 4)]
            rw [hq1]
            refine ex_st 2 (pc' := 55) (ls' := [(2, xi 2), (0, xr 1), (1, xi x)]) (st' := [xi 3, xr 1]) rfl ?_
            refine ex_pfi rfl (by decide) (rfl : xSH[1]? = some _) (by decide) rfl (by decide) (fun h => by cases h) ?_
            refine ex_st 1 (pc' := 59) (ls' := [(2, xi 2), (0, xr 1), (1, xi x)]) (st' := [xi 1]) rfl ?_
            refine ex_retz rfl (Or.inr rfl) rfl ?_
            refine ex_st 1 (pc' := 35) (ls' := [(0, xr 0), (1, xi x)]) (st' := []) rfl ?_
            refine ex_st 3 (pc' := 42) (ls' := [(0, xr 0), (1, xi x)]) (st' := [xi ((x_up (x_up I 4 2 x) 1 4 3) 1 4)]) rfl ?_
            rw [x_up_at (x_up I 4 2 x) 1 4 3]
            refine ex_st 1 (pc' := 47) (ls' := [(0, xr 0), (1, xi x)]) (st' := [xi 3]) rfl ?_
            refine ex_reti rfl rfl ?_
            refine x_CQ.of (M := xM_m_put) rfl (Nat.le_of_ble_eq_true rfl) ?_
            refine ex_st 2 (pc' := 2) (ls' := [(0, xr 143), (1, xi x)]) (st' := [xi (-1), xi x]) rfl ?_
            refine ex_ic rfl (by first | omega | (constructor <;> omega) | assumption) (by decide) (fun (h4 : ¬ x = (-1)) => ?_) (fun (h4 : ¬ ¬ x = (-1)) => ?_)
            · refine ex_st 2 (pc' := 14) (ls' := [(0, xr 143), (1, xi x)]) (st' := [xi x, xr 143]) rfl ?_
              refine ex_call (ct_m_isThing (by first | omega | (constructor <;> omega) | assumption)) (by decide) rfl ⟨rfl, rfl, rfl⟩ ⟨Nat.le_of_ble_eq_true rfl, rfl, rfl⟩ (Nat.le_of_ble_eq_true rfl) rfl ?_
              refine ex_bne rfl (fun h5 => ?_) (fun h5 => ?_)
              · refine ex_st 5 (pc' := 29) (ls' := [(2, xi 0), (0, xr 143), (1, xi x)]) (st' := [xi ((x_up (x_up I 4 2 x) 1 4 3) 143 2), xi 0]) rfl ?_
                rw [(x_up_far (by first | decide | omega) : (x_up (x_up I 4 2 x) 1 4 3) 143 2 = (x_up I 4 2 x) 143 2)]
                rw [(x_up_far (by first | decide | omega) : (x_up I 4 2 x) 143 2 = I 143 2)]
                rw [hq0]
                refine ex_st 1 (pc' := 32) (ls' := [(2, xi 0), (0, xr 143), (1, xi x)]) (st' := []) rfl ?_
                refine ex_st 3 (pc' := 37) (ls' := [(2, xi 0), (0, xr 143), (1, xi x)]) (st' := [xi 0, xr 150]) rfl ?_
                refine ex_iald (j := 0) rfl (by decide) (rfl : xSH[150]? = some _) (by decide) (by decide) (by decide) ?_
                rw [(x_up_far (by first | decide | omega) : (x_up (x_up I 4 2 x) 1 4 3) 150 0 = (x_up I 4 2 x) 150 0)]
                rw [(x_up_far (by first | decide | omega) : (x_up I 4 2 x) 150 0 = I 150 0)]
                refine ex_st 1 (pc' := 39) (ls' := [(2, xi 0), (0, xr 143), (1, xi x)]) (st' := [xi x, xi (I 150 0)]) rfl ?_
                refine ex_ic rfl (by first | omega | (constructor <;> omega) | assumption) (by first | omega | (constructor <;> omega) | assumption) (fun (h6 : ¬ (I 150 0) = x) => ?_) (fun (h6 : ¬ ¬ (I 150 0) = x) => ?_)
                · refine ex_st 5 (pc' := 29) (ls' := [(2, xi 1), (0, xr 143), (1, xi x)]) (st' := [xi ((x_up (x_up I 4 2 x) 1 4 3) 143 2), xi 1]) rfl ?_
                  rw [(x_up_far (by first | decide | omega) : (x_up (x_up I 4 2 x) 1 4 3) 143 2 = (x_up I 4 2 x) 143 2)]
                  rw [(x_up_far (by first | decide | omega) : (x_up I 4 2 x) 143 2 = I 143 2)]
                  rw [hq0]
                  refine ex_st 1 (pc' := 32) (ls' := [(2, xi 1), (0, xr 143), (1, xi x)]) (st' := []) rfl ?_
                  refine ex_st 3 (pc' := 37) (ls' := [(2, xi 1), (0, xr 143), (1, xi x)]) (st' := [xi 1, xr 150]) rfl ?_
                  refine ex_iald (j := 1) rfl (by decide) (rfl : xSH[150]? = some _) (by decide) (by decide) (by decide) ?_
                  rw [(x_up_far (by first | decide | omega) : (x_up (x_up I 4 2 x) 1 4 3) 150 1 = (x_up I 4 2 x) 150 1)]
                  rw [(x_up_far (by first | decide | omega) : (x_up I 4 2 x) 150 1 = I 150 1)]
                  refine ex_st 1 (pc' := 39) (ls' := [(2, xi 1), (0, xr 143), (1, xi x)]) (st' := [xi x, xi (I 150 1)]) rfl ?_
                  refine ex_ic rfl (by first | omega | (constructor <;> omega) | assumption) (by first | omega | (constructor <;> omega) | assumption) (fun (h7 : ¬ (I 150 1) = x) => ?_) (fun (h7 : ¬ ¬ (I 150 1) = x) => ?_)
                  · refine ex_st 5 (pc' := 29) (ls' := [(2, xi 2), (0, xr 143), (1, xi x)]) (st' := [xi ((x_up (x_up I 4 2 x) 1 4 3) 143 2), xi 2]) rfl ?_
                    rw [(x_up_far (by first | decide | omega) : (x_up (x_up I 4 2 x) 1 4 3) 143 2 = (x_up I 4 2 x) 143 2)]
                    rw [(x_up_far (by first | decide | omega) : (x_up I 4 2 x) 143 2 = I 143 2)]
                    rw [hq0]
                    refine ex_st 1 (pc' := 51) (ls' := [(2, xi 2), (0, xr 143), (1, xi x)]) (st' := []) rfl ?_
                    refine ex_st 4 (pc' := 59) (ls' := [(2, xi 2), (0, xr 143), (1, xi x)]) (st' := [xi ((x_up (x_up I 4 2 x) 1 4 3) 143 2), xr 150]) rfl ?_
                    rw [(x_up_far (by first | decide | omega) : (x_up (x_up I 4 2 x) 1 4 3) 143 2 = (x_up I 4 2 x) 143 2)]
                    rw [(x_up_far (by first | decide | omega) : (x_up I 4 2 x) 143 2 = I 143 2)]
                    rw [hq0]
                    refine ex_st 1 (pc' := 60) (ls' := [(2, xi 2), (0, xr 143), (1, xi x)]) (st' := [xi x, xi 2, xr 150]) rfl ?_
                    refine ex_iast (j := 2) rfl (by decide) (rfl : xSH[150]? = some _) (by decide) (by decide) (by decide) ?_
                    refine ex_st 3 (pc' := 66) (ls' := [(2, xi 2), (0, xr 143), (1, xi x)]) (st' := [xi ((x_up (x_up (x_up I 4 2 x) 1 4 3) 150 2 x) 143 2), xr 143]) rfl ?_
                    rw [(x_up_far (by first | decide | omega) : (x_up (x_up (x_up I 4 2 x) 1 4 3) 150 2 x) 143 2 = (x_up (x_up I 4 2 x) 1 4 3) 143 2)]
                    rw [(x_up_far (by first | decide | omega) : (x_up (x_up I 4 2 x) 1 4 3) 143 2 = (x_up I 4 2 x) 143 2)]
                    rw [(x_up_far (by first | decide | omega) : (x_up I 4 2 x) 143 2 = I 143 2)]
                    rw [hq0]
                    refine ex_st 2 (pc' := 68) (ls' := [(2, xi 2), (0, xr 143), (1, xi x)]) (st' := [xi 3, xr 143]) rfl ?_
                    refine ex_pfi rfl (by decide) (rfl : xSH[143]? = some _) (by decide) rfl (by decide) (fun h => by cases h) ?_
                    refine ex_st 2 (pc' := 75) (ls' := [(2, xi 2), (0, xr 143), (1, xi x)]) (st' := [xi ((x_up (x_up (x_up (x_up I 4 2 x) 1 4 3) 150 2 x) 143 2 3) 143 2)]) rfl ?_
                    rw [x_up_at (x_up (x_up (x_up I 4 2 x) 1 4 3) 150 2 x) 143 2 3]
                    refine ex_reti rfl rfl ?_
                    refine ⟨x_req (by first | rfl | omega), ?_⟩
                    have hno : ∀ y : Nat, y < 2 → I 150 y ≠ x := by
                      intro y hy
                      have h4 := g4 y (by omega)
                      rcases (show y = 0 ∨ y = 1 by omega) with rfl | rfl <;> omega
                    refine ⟨_, _, rfl, ?_⟩
                    generalize hM : (x_up (x_up (x_up (x_up I 4 2 x) 1 4 3) 150 2 x) 143 2 3) = I2
                    have hF : ∀ k j, ¬ ((k = 143 ∧ j = 2) ∨ (k = 150 ∧ j = 2) ∨ (k = 1 ∧ j = 4) ∨ (k = 4 ∧ j = 2)) → I2 k j = I k j := by intro k j hk; rw [← hM]; (repeat rw [x_up_far (by omega)])
                    have hw0 : I2 143 2 = 3 := by rw [← hM]; (repeat (first | rw [x_up_far (by omega)] | rw [x_up_at2 (by omega) (by omega)]))
                    have hw1 : I2 150 2 = x := by rw [← hM]; (repeat (first | rw [x_up_far (by omega)] | rw [x_up_at2 (by omega) (by omega)]))
                    have hw2 : I2 1 4 = 3 := by rw [← hM]; (repeat (first | rw [x_up_far (by omega)] | rw [x_up_at2 (by omega) (by omega)]))
                    have hw3 : I2 4 2 = x := by rw [← hM]; (repeat (first | rw [x_up_far (by omega)] | rw [x_up_at2 (by omega) (by omega)]))
                    clear hM
                    have hI2 : RIw I2 := by
                      obtain ⟨gs, go, ga, gb, gr, gd, gg, ge, gp, gk⟩ := id hI
                      exact ⟨gs.fr ⟨by (repeat rw [hF _ _ (by omega)]); try rfl, by (repeat rw [hF _ _ (by omega)]); try rfl, by (repeat rw [hF _ _ (by omega)]); try rfl, by (repeat rw [hF _ _ (by omega)]); try rfl, by (repeat rw [hF _ _ (by omega)]); try rfl, by (repeat rw [hF _ _ (by omega)]); try rfl, by (repeat rw [hF _ _ (by omega)]); try rfl, by (repeat rw [hF _ _ (by omega)]); try rfl, by (repeat rw [hF _ _ (by omega)]); try rfl⟩, go.fr (by intros; (repeat rw [hF _ _ (by omega)]); try rfl) (by intros; (repeat rw [hF _ _ (by omega)]); try rfl), ga.fr (by intros; (repeat rw [hF _ _ (by omega)]); try rfl) (by (repeat rw [hF _ _ (by omega)]); try rfl), gb.fr (by intros; (repeat rw [hF _ _ (by omega)]); try rfl) (by intros; (repeat rw [hF _ _ (by omega)]); try rfl), gr.fr (by intros; (repeat rw [hF _ _ (by omega)]); try rfl) (by intros; (repeat rw [hF _ _ (by omega)]); try rfl), gd.fr (by intros; (repeat rw [hF _ _ (by omega)]); try rfl) (by intros; (repeat rw [hF _ _ (by omega)]); try rfl) (by (repeat rw [hF _ _ (by omega)]); try rfl), gg.fr ⟨by (repeat rw [hF _ _ (by omega)]); try rfl, by (repeat rw [hF _ _ (by omega)]); try rfl⟩ (by intros; (repeat rw [hF _ _ (by omega)]); try rfl) (by intros; (repeat rw [hF _ _ (by omega)]); try rfl), ge.fr ⟨by (repeat rw [hF _ _ (by omega)]); try rfl, by (repeat rw [hF _ _ (by omega)]); try rfl, by (repeat rw [hF _ _ (by omega)]); try rfl⟩ (by intros; (repeat rw [hF _ _ (by omega)]); try rfl) (by intros; (repeat rw [hF _ _ (by omega)]); try rfl), gp.fr ⟨by (repeat rw [hF _ _ (by omega)]); try rfl, by (repeat rw [hF _ _ (by omega)]); try rfl, by (repeat rw [hF _ _ (by omega)]); try rfl⟩ (by intros; (repeat rw [hF _ _ (by omega)]); try rfl) (by intros; (repeat rw [hF _ _ (by omega)]); try rfl), gk.fr ⟨by (repeat rw [hF _ _ (by omega)]); try rfl, by (repeat rw [hF _ _ (by omega)]); try rfl, by (repeat rw [hF _ _ (by omega)]); try rfl⟩ (by intros; (repeat rw [hF _ _ (by omega)]); try rfl) (by intros; (repeat rw [hF _ _ (by omega)]); try rfl)⟩
                    refine ⟨⟨hNs.fr ⟨by (repeat rw [hF _ _ (by omega)]); try rfl, by (repeat rw [hF _ _ (by omega)]); try rfl, by (repeat rw [hF _ _ (by omega)]); try rfl, by (repeat rw [hF _ _ (by omega)]); try rfl, by (repeat rw [hF _ _ (by omega)]); try rfl, by (repeat rw [hF _ _ (by omega)]); try rfl, by (repeat rw [hF _ _ (by omega)]); try rfl, by (repeat rw [hF _ _ (by omega)]); try rfl, by (repeat rw [hF _ _ (by omega)]); try rfl⟩, hNo.fr (by intros; (repeat rw [hF _ _ (by omega)]); try rfl) (by intros; (repeat rw [hF _ _ (by omega)]); try rfl), hNa.fr (by intros; (repeat rw [hF _ _ (by omega)]); try rfl) (by (repeat rw [hF _ _ (by omega)]); try rfl), hNb.fr (by intros; (repeat rw [hF _ _ (by omega)]); try rfl) (by intros; (repeat rw [hF _ _ (by omega)]); try rfl), hNr.fr (by intros; (repeat rw [hF _ _ (by omega)]); try rfl) (by intros; (repeat rw [hF _ _ (by omega)]); try rfl), hNd.fr (by intros; (repeat rw [hF _ _ (by omega)]); try rfl) (by intros; (repeat rw [hF _ _ (by omega)]); try rfl) (by (repeat rw [hF _ _ (by omega)]); try rfl), ?_, hNe.fr ⟨by (repeat rw [hF _ _ (by omega)]); try rfl, by (repeat rw [hF _ _ (by omega)]); try rfl, by (repeat rw [hF _ _ (by omega)]); try rfl⟩ (by intros; (repeat rw [hF _ _ (by omega)]); try rfl) (by intros; (repeat rw [hF _ _ (by omega)]); try rfl), hNp.fr ⟨by (repeat rw [hF _ _ (by omega)]); try rfl, by (repeat rw [hF _ _ (by omega)]); try rfl, by (repeat rw [hF _ _ (by omega)]); try rfl⟩ (by intros; (repeat rw [hF _ _ (by omega)]); try rfl) (by intros; (repeat rw [hF _ _ (by omega)]); try rfl), hNk.fr ⟨by (repeat rw [hF _ _ (by omega)]); try rfl, by (repeat rw [hF _ _ (by omega)]); try rfl, by (repeat rw [hF _ _ (by omega)]); try rfl⟩ (by intros; (repeat rw [hF _ _ (by omega)]); try rfl) (by intros; (repeat rw [hF _ _ (by omega)]); try rfl)⟩, hI2, hT.fr ⟨by (repeat rw [hF _ _ (by omega)]); try rfl, by (repeat rw [hF _ _ (by omega)]); try rfl⟩ (by intros; (repeat rw [hF _ _ (by omega)]); try rfl) (by intros; (repeat rw [hF _ _ (by omega)]); try rfl) (by intros; (repeat rw [hF _ _ (by omega)]); try rfl), hX.fr ⟨by (repeat rw [hF _ _ (by omega)]); try rfl, by (repeat rw [hF _ _ (by omega)]); try rfl⟩ (by intros; (repeat rw [hF _ _ (by omega)]); try rfl), hC.fr ⟨by (repeat rw [hF _ _ (by omega)]); try rfl, by (repeat rw [hF _ _ (by omega)]); try rfl⟩ (by intros; (repeat rw [hF _ _ (by omega)]); try rfl), hH.fr ⟨by (repeat rw [hF _ _ (by omega)]); try rfl, by (repeat rw [hF _ _ (by omega)]); try rfl, by (repeat rw [hF _ _ (by omega)]); try rfl⟩ (by intros; (repeat rw [hF _ _ (by omega)]); try rfl) (by intros; (repeat rw [hF _ _ (by omega)]); try rfl), hQ.fr (by intros; (repeat rw [hF _ _ (by omega)]); try rfl) (by intros; (repeat rw [hF _ _ (by omega)]); try rfl) (by intros; (repeat rw [hF _ _ (by omega)]); try rfl) (by intros; (repeat rw [hF _ _ (by omega)]); try rfl)⟩
                    · refine ⟨by (repeat (first | rw [hw0] | rw [hw1] | rw [hw2] | rw [hw3] | rw [hF _ _ (by omega)])), by (repeat (first | rw [hw0] | rw [hw1] | rw [hw2] | rw [hw3] | rw [hF _ _ (by omega)])); omega, by (repeat (first | rw [hw0] | rw [hw1] | rw [hw2] | rw [hw3] | rw [hF _ _ (by omega)])); omega, fun y hy => ?_, fun y hy => ?_, fun y z hyz hz => ?_⟩
                      · by_cases e : y = 2
                        · subst e; (repeat (first | rw [hw0] | rw [hw1] | rw [hw2] | rw [hw3] | rw [hF _ _ (by omega)]))
                        · (repeat (first | rw [hw0] | rw [hw1] | rw [hw2] | rw [hw3] | rw [hF _ _ (by omega)])); exact g4 y hy
                      · rw [hw0] at hy; by_cases e : y = 2
                        · subst e; (repeat (first | rw [hw0] | rw [hw1] | rw [hw2] | rw [hw3] | rw [hF _ _ (by omega)])); omega
                        · have h := g5 y (by omega); (repeat (first | rw [hw0] | rw [hw1] | rw [hw2] | rw [hw3] | rw [hF _ _ (by omega)])); exact h
                      · rw [hw0] at hz; by_cases e : z = 2
                        · subst e; have h := hno y (by omega); (repeat (first | rw [hw0] | rw [hw1] | rw [hw2] | rw [hw3] | rw [hF _ _ (by omega)])); exact h
                        · have h := g6 y z hyz (by omega); (repeat (first | rw [hw0] | rw [hw1] | rw [hw2] | rw [hw3] | rw [hF _ _ (by omega)])); exact h
                  · exfalso; omega
                · exfalso; omega
              · exfalso; omega
            · exfalso; omega
          · refine ex_st 1 (pc' := 21) (ls' := [(2, xi 1), (0, xr 1), (1, xi x)]) (st' := [xi 0]) rfl ?_
            refine ex_retz rfl (Or.inl rfl) rfl ?_
            refine ex_st 1 (pc' := 45) (ls' := [(0, xr 0), (1, xi x)]) (st' := []) rfl ?_
            refine ex_st 1 (pc' := 47) (ls' := [(0, xr 0), (1, xi x)]) (st' := [xi (-3)]) rfl ?_
            refine ex_reti rfl rfl ?_
            refine x_CQ.of (M := xM_m_put) rfl (Nat.le_of_ble_eq_true rfl) ?_
            refine ex_st 2 (pc' := 2) (ls' := [(0, xr 143), (1, xi x)]) (st' := [xi (-1), xi x]) rfl ?_
            refine ex_ic rfl (by first | omega | (constructor <;> omega) | assumption) (by decide) (fun (h8 : ¬ x = (-1)) => ?_) (fun (h8 : ¬ ¬ x = (-1)) => ?_)
            · refine ex_st 2 (pc' := 14) (ls' := [(0, xr 143), (1, xi x)]) (st' := [xi x, xr 143]) rfl ?_
              refine ex_call (ct_m_isThing (by first | omega | (constructor <;> omega) | assumption)) (by decide) rfl ⟨rfl, rfl, rfl⟩ ⟨Nat.le_of_ble_eq_true rfl, rfl, rfl⟩ (Nat.le_of_ble_eq_true rfl) rfl ?_
              refine ex_bne rfl (fun h9 => ?_) (fun h9 => ?_)
              · refine ex_st 5 (pc' := 29) (ls' := [(2, xi 0), (0, xr 143), (1, xi x)]) (st' := [xi (I 143 2), xi 0]) rfl ?_
                rw [hq0]
                refine ex_st 1 (pc' := 32) (ls' := [(2, xi 0), (0, xr 143), (1, xi x)]) (st' := []) rfl ?_
                refine ex_st 3 (pc' := 37) (ls' := [(2, xi 0), (0, xr 143), (1, xi x)]) (st' := [xi 0, xr 150]) rfl ?_
                refine ex_iald (j := 0) rfl (by decide) (rfl : xSH[150]? = some _) (by decide) (by decide) (by decide) ?_
                refine ex_st 1 (pc' := 39) (ls' := [(2, xi 0), (0, xr 143), (1, xi x)]) (st' := [xi x, xi (I 150 0)]) rfl ?_
                refine ex_ic rfl (by first | omega | (constructor <;> omega) | assumption) (by first | omega | (constructor <;> omega) | assumption) (fun (h10 : ¬ (I 150 0) = x) => ?_) (fun (h10 : ¬ ¬ (I 150 0) = x) => ?_)
                · refine ex_st 5 (pc' := 29) (ls' := [(2, xi 1), (0, xr 143), (1, xi x)]) (st' := [xi (I 143 2), xi 1]) rfl ?_
                  rw [hq0]
                  refine ex_st 1 (pc' := 32) (ls' := [(2, xi 1), (0, xr 143), (1, xi x)]) (st' := []) rfl ?_
                  refine ex_st 3 (pc' := 37) (ls' := [(2, xi 1), (0, xr 143), (1, xi x)]) (st' := [xi 1, xr 150]) rfl ?_
                  refine ex_iald (j := 1) rfl (by decide) (rfl : xSH[150]? = some _) (by decide) (by decide) (by decide) ?_
                  refine ex_st 1 (pc' := 39) (ls' := [(2, xi 1), (0, xr 143), (1, xi x)]) (st' := [xi x, xi (I 150 1)]) rfl ?_
                  refine ex_ic rfl (by first | omega | (constructor <;> omega) | assumption) (by first | omega | (constructor <;> omega) | assumption) (fun (h11 : ¬ (I 150 1) = x) => ?_) (fun (h11 : ¬ ¬ (I 150 1) = x) => ?_)
                  · exfalso; omega
                  · refine ex_st 1 (pc' := 44) (ls' := [(2, xi 1), (0, xr 143), (1, xi x)]) (st' := [xi (-3)]) rfl ?_
                    refine ex_reti rfl rfl ?_
                    exact ⟨x_req (by first | rfl | omega), _, _, rfl, hR⟩
                · exfalso; omega
              · exfalso; omega
            · exfalso; omega
        · refine ex_st 1 (pc' := 21) (ls' := [(2, xi 0), (0, xr 1), (1, xi x)]) (st' := [xi 0]) rfl ?_
          refine ex_retz rfl (Or.inl rfl) rfl ?_
          refine ex_st 1 (pc' := 45) (ls' := [(0, xr 0), (1, xi x)]) (st' := []) rfl ?_
          refine ex_st 1 (pc' := 47) (ls' := [(0, xr 0), (1, xi x)]) (st' := [xi (-3)]) rfl ?_
          refine ex_reti rfl rfl ?_
          refine x_CQ.of (M := xM_m_put) rfl (Nat.le_of_ble_eq_true rfl) ?_
          refine ex_st 2 (pc' := 2) (ls' := [(0, xr 143), (1, xi x)]) (st' := [xi (-1), xi x]) rfl ?_
          refine ex_ic rfl (by first | omega | (constructor <;> omega) | assumption) (by decide) (fun (h12 : ¬ x = (-1)) => ?_) (fun (h12 : ¬ ¬ x = (-1)) => ?_)
          · refine ex_st 2 (pc' := 14) (ls' := [(0, xr 143), (1, xi x)]) (st' := [xi x, xr 143]) rfl ?_
            refine ex_call (ct_m_isThing (by first | omega | (constructor <;> omega) | assumption)) (by decide) rfl ⟨rfl, rfl, rfl⟩ ⟨Nat.le_of_ble_eq_true rfl, rfl, rfl⟩ (Nat.le_of_ble_eq_true rfl) rfl ?_
            refine ex_bne rfl (fun h13 => ?_) (fun h13 => ?_)
            · refine ex_st 5 (pc' := 29) (ls' := [(2, xi 0), (0, xr 143), (1, xi x)]) (st' := [xi (I 143 2), xi 0]) rfl ?_
              rw [hq0]
              refine ex_st 1 (pc' := 32) (ls' := [(2, xi 0), (0, xr 143), (1, xi x)]) (st' := []) rfl ?_
              refine ex_st 3 (pc' := 37) (ls' := [(2, xi 0), (0, xr 143), (1, xi x)]) (st' := [xi 0, xr 150]) rfl ?_
              refine ex_iald (j := 0) rfl (by decide) (rfl : xSH[150]? = some _) (by decide) (by decide) (by decide) ?_
              refine ex_st 1 (pc' := 39) (ls' := [(2, xi 0), (0, xr 143), (1, xi x)]) (st' := [xi x, xi (I 150 0)]) rfl ?_
              refine ex_ic rfl (by first | omega | (constructor <;> omega) | assumption) (by first | omega | (constructor <;> omega) | assumption) (fun (h14 : ¬ (I 150 0) = x) => ?_) (fun (h14 : ¬ ¬ (I 150 0) = x) => ?_)
              · exfalso; omega
              · refine ex_st 1 (pc' := 44) (ls' := [(2, xi 0), (0, xr 143), (1, xi x)]) (st' := [xi (-3)]) rfl ?_
                refine ex_reti rfl rfl ?_
                exact ⟨x_req (by first | rfl | omega), _, _, rfl, hR⟩
            · exfalso; omega
          · exfalso; omega
      · refine ex_st 1 (pc' := 23) (ls' := [(0, xr 0), (1, xi x)]) (st' := [xi (-1)]) rfl ?_
        refine ex_reti rfl rfl ?_
        refine x_CQ.of (M := xM_m_put) rfl (Nat.le_of_ble_eq_true rfl) ?_
        refine ex_st 2 (pc' := 2) (ls' := [(0, xr 143), (1, xi x)]) (st' := [xi (-1), xi x]) rfl ?_
        refine ex_ic rfl (by first | omega | (constructor <;> omega) | assumption) (by decide) (fun (h15 : ¬ x = (-1)) => ?_) (fun (h15 : ¬ ¬ x = (-1)) => ?_)
        · refine ex_st 2 (pc' := 14) (ls' := [(0, xr 143), (1, xi x)]) (st' := [xi x, xr 143]) rfl ?_
          refine ex_call (ct_m_isThing (by first | omega | (constructor <;> omega) | assumption)) (by decide) rfl ⟨rfl, rfl, rfl⟩ ⟨Nat.le_of_ble_eq_true rfl, rfl, rfl⟩ (Nat.le_of_ble_eq_true rfl) rfl ?_
          refine ex_bne rfl (fun h16 => ?_) (fun h16 => ?_)
          · exfalso; omega
          · refine ex_st 1 (pc' := 21) (ls' := [(0, xr 143), (1, xi x)]) (st' := [xi (-1)]) rfl ?_
            refine ex_reti rfl rfl ?_
            exact ⟨x_req (by first | rfl | omega), _, _, rfl, hR⟩
        · exfalso; omega
    · refine ex_st 3 (pc' := 10) (ls' := [(0, xr 0), (1, xi x)]) (st' := [xi 0, xr 1]) rfl ?_
      refine ex_pfi rfl (by decide) (rfl : xSH[1]? = some _) (by decide) rfl (by decide) (fun h => by cases h) ?_
      refine ex_st 1 (pc' := 14) (ls' := [(0, xr 0), (1, xi x)]) (st' := [xi 0]) rfl ?_
      refine ex_reti rfl rfl ?_
      refine x_CQ.of (M := xM_m_put) rfl (Nat.le_of_ble_eq_true rfl) ?_
      refine ex_st 2 (pc' := 2) (ls' := [(0, xr 143), (1, xi x)]) (st' := [xi (-1), xi x]) rfl ?_
      refine ex_ic rfl (by first | omega | (constructor <;> omega) | assumption) (by decide) (fun (h17 : ¬ x = (-1)) => ?_) (fun (h17 : ¬ ¬ x = (-1)) => ?_)
      · exfalso; omega
      · refine ex_st 2 (pc' := 7) (ls' := [(0, xr 143), (1, xi x)]) (st' := [xi 0, xr 143]) rfl ?_
        refine ex_pfi rfl (by decide) (rfl : xSH[143]? = some _) (by decide) rfl (by decide) (fun h => by cases h) ?_
        refine ex_st 1 (pc' := 11) (ls' := [(0, xr 143), (1, xi x)]) (st' := [xi 0]) rfl ?_
        refine ex_reti rfl rfl ?_
        refine ⟨x_req (by first | rfl | omega), ?_⟩
        refine ⟨_, _, rfl, ?_⟩
        generalize hM : (x_up (x_up I 1 4 0) 143 2 0) = I2
        have hF : ∀ k j, ¬ ((k = 143 ∧ j = 2) ∨ (k = 1 ∧ j = 4)) → I2 k j = I k j := by intro k j hk; rw [← hM]; (repeat rw [x_up_far (by omega)])
        have hw0 : I2 143 2 = 0 := by rw [← hM]; (repeat (first | rw [x_up_far (by omega)] | rw [x_up_at2 (by omega) (by omega)]))
        have hw1 : I2 1 4 = 0 := by rw [← hM]; (repeat (first | rw [x_up_far (by omega)] | rw [x_up_at2 (by omega) (by omega)]))
        clear hM
        have hI2 : RIw I2 := by
          obtain ⟨gs, go, ga, gb, gr, gd, gg, ge, gp, gk⟩ := id hI
          exact ⟨gs.fr ⟨by (repeat rw [hF _ _ (by omega)]); try rfl, by (repeat rw [hF _ _ (by omega)]); try rfl, by (repeat rw [hF _ _ (by omega)]); try rfl, by (repeat rw [hF _ _ (by omega)]); try rfl, by (repeat rw [hF _ _ (by omega)]); try rfl, by (repeat rw [hF _ _ (by omega)]); try rfl, by (repeat rw [hF _ _ (by omega)]); try rfl, by (repeat rw [hF _ _ (by omega)]); try rfl, by (repeat rw [hF _ _ (by omega)]); try rfl⟩, go.fr (by intros; (repeat rw [hF _ _ (by omega)]); try rfl) (by intros; (repeat rw [hF _ _ (by omega)]); try rfl), ga.fr (by intros; (repeat rw [hF _ _ (by omega)]); try rfl) (by (repeat rw [hF _ _ (by omega)]); try rfl), gb.fr (by intros; (repeat rw [hF _ _ (by omega)]); try rfl) (by intros; (repeat rw [hF _ _ (by omega)]); try rfl), gr.fr (by intros; (repeat rw [hF _ _ (by omega)]); try rfl) (by intros; (repeat rw [hF _ _ (by omega)]); try rfl), gd.fr (by intros; (repeat rw [hF _ _ (by omega)]); try rfl) (by intros; (repeat rw [hF _ _ (by omega)]); try rfl) (by (repeat rw [hF _ _ (by omega)]); try rfl), gg.fr ⟨by (repeat rw [hF _ _ (by omega)]); try rfl, by (repeat rw [hF _ _ (by omega)]); try rfl⟩ (by intros; (repeat rw [hF _ _ (by omega)]); try rfl) (by intros; (repeat rw [hF _ _ (by omega)]); try rfl), ge.fr ⟨by (repeat rw [hF _ _ (by omega)]); try rfl, by (repeat rw [hF _ _ (by omega)]); try rfl, by (repeat rw [hF _ _ (by omega)]); try rfl⟩ (by intros; (repeat rw [hF _ _ (by omega)]); try rfl) (by intros; (repeat rw [hF _ _ (by omega)]); try rfl), gp.fr ⟨by (repeat rw [hF _ _ (by omega)]); try rfl, by (repeat rw [hF _ _ (by omega)]); try rfl, by (repeat rw [hF _ _ (by omega)]); try rfl⟩ (by intros; (repeat rw [hF _ _ (by omega)]); try rfl) (by intros; (repeat rw [hF _ _ (by omega)]); try rfl), gk.fr ⟨by (repeat rw [hF _ _ (by omega)]); try rfl, by (repeat rw [hF _ _ (by omega)]); try rfl, by (repeat rw [hF _ _ (by omega)]); try rfl⟩ (by intros; (repeat rw [hF _ _ (by omega)]); try rfl) (by intros; (repeat rw [hF _ _ (by omega)]); try rfl)⟩
        refine ⟨⟨hNs.fr ⟨by (repeat rw [hF _ _ (by omega)]); try rfl, by (repeat rw [hF _ _ (by omega)]); try rfl, by (repeat rw [hF _ _ (by omega)]); try rfl, by (repeat rw [hF _ _ (by omega)]); try rfl, by (repeat rw [hF _ _ (by omega)]); try rfl, by (repeat rw [hF _ _ (by omega)]); try rfl, by (repeat rw [hF _ _ (by omega)]); try rfl, by (repeat rw [hF _ _ (by omega)]); try rfl, by (repeat rw [hF _ _ (by omega)]); try rfl⟩, hNo.fr (by intros; (repeat rw [hF _ _ (by omega)]); try rfl) (by intros; (repeat rw [hF _ _ (by omega)]); try rfl), hNa.fr (by intros; (repeat rw [hF _ _ (by omega)]); try rfl) (by (repeat rw [hF _ _ (by omega)]); try rfl), hNb.fr (by intros; (repeat rw [hF _ _ (by omega)]); try rfl) (by intros; (repeat rw [hF _ _ (by omega)]); try rfl), hNr.fr (by intros; (repeat rw [hF _ _ (by omega)]); try rfl) (by intros; (repeat rw [hF _ _ (by omega)]); try rfl), hNd.fr (by intros; (repeat rw [hF _ _ (by omega)]); try rfl) (by intros; (repeat rw [hF _ _ (by omega)]); try rfl) (by (repeat rw [hF _ _ (by omega)]); try rfl), ?_, hNe.fr ⟨by (repeat rw [hF _ _ (by omega)]); try rfl, by (repeat rw [hF _ _ (by omega)]); try rfl, by (repeat rw [hF _ _ (by omega)]); try rfl⟩ (by intros; (repeat rw [hF _ _ (by omega)]); try rfl) (by intros; (repeat rw [hF _ _ (by omega)]); try rfl), hNp.fr ⟨by (repeat rw [hF _ _ (by omega)]); try rfl, by (repeat rw [hF _ _ (by omega)]); try rfl, by (repeat rw [hF _ _ (by omega)]); try rfl⟩ (by intros; (repeat rw [hF _ _ (by omega)]); try rfl) (by intros; (repeat rw [hF _ _ (by omega)]); try rfl), hNk.fr ⟨by (repeat rw [hF _ _ (by omega)]); try rfl, by (repeat rw [hF _ _ (by omega)]); try rfl, by (repeat rw [hF _ _ (by omega)]); try rfl⟩ (by intros; (repeat rw [hF _ _ (by omega)]); try rfl) (by intros; (repeat rw [hF _ _ (by omega)]); try rfl)⟩, hI2, hT.fr ⟨by (repeat rw [hF _ _ (by omega)]); try rfl, by (repeat rw [hF _ _ (by omega)]); try rfl⟩ (by intros; (repeat rw [hF _ _ (by omega)]); try rfl) (by intros; (repeat rw [hF _ _ (by omega)]); try rfl) (by intros; (repeat rw [hF _ _ (by omega)]); try rfl), hX.fr ⟨by (repeat rw [hF _ _ (by omega)]); try rfl, by (repeat rw [hF _ _ (by omega)]); try rfl⟩ (by intros; (repeat rw [hF _ _ (by omega)]); try rfl), hC.fr ⟨by (repeat rw [hF _ _ (by omega)]); try rfl, by (repeat rw [hF _ _ (by omega)]); try rfl⟩ (by intros; (repeat rw [hF _ _ (by omega)]); try rfl), hH.fr ⟨by (repeat rw [hF _ _ (by omega)]); try rfl, by (repeat rw [hF _ _ (by omega)]); try rfl, by (repeat rw [hF _ _ (by omega)]); try rfl⟩ (by intros; (repeat rw [hF _ _ (by omega)]); try rfl) (by intros; (repeat rw [hF _ _ (by omega)]); try rfl), hQ.fr (by intros; (repeat rw [hF _ _ (by omega)]); try rfl) (by intros; (repeat rw [hF _ _ (by omega)]); try rfl) (by intros; (repeat rw [hF _ _ (by omega)]); try rfl) (by intros; (repeat rw [hF _ _ (by omega)]); try rfl)⟩
        · refine ⟨by (repeat (first | rw [hw0] | rw [hw1] | rw [hF _ _ (by omega)])), by (repeat (first | rw [hw0] | rw [hw1] | rw [hF _ _ (by omega)])); omega, by (repeat (first | rw [hw0] | rw [hw1] | rw [hF _ _ (by omega)])); omega, fun y hy => by (repeat (first | rw [hw0] | rw [hw1] | rw [hF _ _ (by omega)])); exact g4 y hy, fun y hy => ?_, fun y z hyz hz => ?_⟩ <;> (exfalso; rw [hw0] at *; omega)
  · have hq0 : I 143 2 = 3 := by omega
    have hq1 : I 1 4 = 3 := by omega
    have e0 := g4 0 (by decide)
    have e1 := g4 1 (by decide)
    have e2 := g4 2 (by decide)
    have r0 := g5 0 (by omega)
    have r1 := g5 1 (by omega)
    have r2 := g5 2 (by omega)
    refine x_CQ.of (M := xM_G_put) rfl (Nat.le_of_ble_eq_true rfl) ?_
    refine ex_st 2 (pc' := 2) (ls' := [(0, xr 0), (1, xi x)]) (st' := [xi (-1), xi x]) rfl ?_
    refine ex_ic rfl (by first | omega | (constructor <;> omega) | assumption) (by decide) (fun (h0 : ¬ x = (-1)) => ?_) (fun (h0 : ¬ ¬ x = (-1)) => ?_)
    · refine ex_st 1 (pc' := 16) (ls' := [(0, xr 0), (1, xi x)]) (st' := [xi x]) rfl ?_
      refine ex_call (ct_G_isThing (by first | omega | (constructor <;> omega) | assumption)) (by decide) rfl ⟨rfl, rfl, rfl⟩ ⟨Nat.le_of_ble_eq_true rfl, rfl, rfl⟩ (Nat.le_of_ble_eq_true rfl) rfl ?_
      refine ex_bne rfl (fun h1 => ?_) (fun h1 => ?_)
      · refine ex_st 3 (pc' := 29) (ls' := [(0, xr 0), (1, xi x)]) (st' := [xi x, xr 1]) rfl ?_
        refine ex_inl (M' := xM_W_putOnAgenda) (as := [xr 1, xi x]) (rest := []) (D' := 28) rfl (Nat.le_of_ble_eq_true rfl) (by decide) rfl ⟨rfl, rfl, rfl⟩ ⟨Nat.le_of_ble_eq_true rfl, rfl, rfl⟩ (Nat.le_of_ble_eq_true rfl) rfl ?_
        refine ex_st 5 (pc' := 7) (ls' := [(2, xi 0), (0, xr 1), (1, xi x)]) (st' := [xi (I 1 4), xi 0]) rfl ?_
        rw [hq1]
        refine ex_st 1 (pc' := 10) (ls' := [(2, xi 0), (0, xr 1), (1, xi x)]) (st' := []) rfl ?_
        refine ex_st 3 (pc' := 15) (ls' := [(2, xi 0), (0, xr 1), (1, xi x)]) (st' := [xi 0, xr 4]) rfl ?_
        refine ex_iald (j := 0) rfl (by decide) (rfl : xSH[4]? = some _) (by decide) (by decide) (by decide) ?_
        refine ex_st 1 (pc' := 17) (ls' := [(2, xi 0), (0, xr 1), (1, xi x)]) (st' := [xi x, xi (I 4 0)]) rfl ?_
        refine ex_ic rfl (by first | omega | (constructor <;> omega) | assumption) (by first | omega | (constructor <;> omega) | assumption) (fun (h2 : ¬ (I 4 0) = x) => ?_) (fun (h2 : ¬ ¬ (I 4 0) = x) => ?_)
        · refine ex_st 5 (pc' := 7) (ls' := [(2, xi 1), (0, xr 1), (1, xi x)]) (st' := [xi (I 1 4), xi 1]) rfl ?_
          rw [hq1]
          refine ex_st 1 (pc' := 10) (ls' := [(2, xi 1), (0, xr 1), (1, xi x)]) (st' := []) rfl ?_
          refine ex_st 3 (pc' := 15) (ls' := [(2, xi 1), (0, xr 1), (1, xi x)]) (st' := [xi 1, xr 4]) rfl ?_
          refine ex_iald (j := 1) rfl (by decide) (rfl : xSH[4]? = some _) (by decide) (by decide) (by decide) ?_
          refine ex_st 1 (pc' := 17) (ls' := [(2, xi 1), (0, xr 1), (1, xi x)]) (st' := [xi x, xi (I 4 1)]) rfl ?_
          refine ex_ic rfl (by first | omega | (constructor <;> omega) | assumption) (by first | omega | (constructor <;> omega) | assumption) (fun (h3 : ¬ (I 4 1) = x) => ?_) (fun (h3 : ¬ ¬ (I 4 1) = x) => ?_)
          · refine ex_st 5 (pc' := 7) (ls' := [(2, xi 2), (0, xr 1), (1, xi x)]) (st' := [xi (I 1 4), xi 2]) rfl ?_
            rw [hq1]
            refine ex_st 1 (pc' := 10) (ls' := [(2, xi 2), (0, xr 1), (1, xi x)]) (st' := []) rfl ?_
            refine ex_st 3 (pc' := 15) (ls' := [(2, xi 2), (0, xr 1), (1, xi x)]) (st' := [xi 2, xr 4]) rfl ?_
            refine ex_iald (j := 2) rfl (by decide) (rfl : xSH[4]? = some _) (by decide) (by decide) (by decide) ?_
            refine ex_st 1 (pc' := 17) (ls' := [(2, xi 2), (0, xr 1), (1, xi x)]) (st' := [xi x, xi (I 4 2)]) rfl ?_
            refine ex_ic rfl (by first | omega | (constructor <;> omega) | assumption) (by first | omega | (constructor <;> omega) | assumption) (fun (h4 : ¬ (I 4 2) = x) => ?_) (fun (h4 : ¬ ¬ (I 4 2) = x) => ?_)
            · refine ex_st 5 (pc' := 7) (ls' := [(2, xi 3), (0, xr 1), (1, xi x)]) (st' := [xi (I 1 4), xi 3]) rfl ?_
              rw [hq1]
              refine ex_st 1 (pc' := 28) (ls' := [(2, xi 3), (0, xr 1), (1, xi x)]) (st' := []) rfl ?_
              refine ex_st 2 (pc' := 32) (ls' := [(2, xi 3), (0, xr 1), (1, xi x)]) (st' := [xi (I 1 4)]) rfl ?_
              rw [hq1]
              refine ex_st 1 (pc' := 33) (ls' := [(2, xi 3), (0, xr 1), (1, xi x)]) (st' := [xi 5, xi 3]) rfl ?_
              refine ex_st 1 (pc' := 38) (ls' := [(2, xi 3), (0, xr 1), (1, xi x)]) (st' := []) rfl ?_
              refine ex_st 4 (pc' := 46) (ls' := [(2, xi 3), (0, xr 1), (1, xi x)]) (st' := [xi (I 1 4), xr 4]) rfl ?_
              rw [hq1]
              refine ex_st 1 (pc' := 47) (ls' := [(2, xi 3), (0, xr 1), (1, xi x)]) (st' := [xi x, xi 3, xr 4]) rfl ?_
              refine ex_iast (j := 3) rfl (by decide) (rfl : xSH[4]? = some _) (by decide) (by decide) (by decide) ?_
              refine ex_st 3 (pc' := 53) (ls' := [(2, xi 3), (0, xr 1), (1, xi x)]) (st' := [xi ((x_up I 4 3 x) 1 4), xr 1]) rfl ?_
              rw [(x_up_far (by first | decide | omega) : (x_up I 4 3 x) 1 4 = I 1 4)]
              rw [hq1]
              refine ex_st 2 (pc' := 55) (ls' := [(2, xi 3), (0, xr 1), (1, xi x)]) (st' := [xi 4, xr 1]) rfl ?_
              refine ex_pfi rfl (by decide) (rfl : xSH[1]? = some _) (by decide) rfl (by decide) (fun h => by cases h) ?_
              refine ex_st 1 (pc' := 59) (ls' := [(2, xi 3), (0, xr 1), (1, xi x)]) (st' := [xi 1]) rfl ?_
              refine ex_retz rfl (Or.inr rfl) rfl ?_
              refine ex_st 1 (pc' := 35) (ls' := [(0, xr 0), (1, xi x)]) (st' := []) rfl ?_
              refine ex_st 3 (pc' := 42) (ls' := [(0, xr 0), (1, xi x)]) (st' := [xi ((x_up (x_up I 4 3 x) 1 4 4) 1 4)]) rfl ?_
              rw [x_up_at (x_up I 4 3 x) 1 4 4]
              refine ex_st 1 (pc' := 47) (ls' := [(0, xr 0), (1, xi x)]) (st' := [xi 4]) rfl ?_
              refine ex_reti rfl rfl ?_
              refine x_CQ.of (M := xM_m_put) rfl (Nat.le_of_ble_eq_true rfl) ?_
              refine ex_st 2 (pc' := 2) (ls' := [(0, xr 143), (1, xi x)]) (st' := [xi (-1), xi x]) rfl ?_
              refine ex_ic rfl (by first | omega | (constructor <;> omega) | assumption) (by decide) (fun (h5 : ¬ x = (-1)) => ?_) (fun (h5 : ¬ ¬ x = (-1)) => ?_)
              · refine ex_st 2 (pc' := 14) (ls' := [(0, xr 143), (1, xi x)]) (st' := [xi x, xr 143]) rfl ?_
                refine ex_call (ct_m_isThing (by first | omega | (constructor <;> omega) | assumption)) (by decide) rfl ⟨rfl, rfl, rfl⟩ ⟨Nat.le_of_ble_eq_true rfl, rfl, rfl⟩ (Nat.le_of_ble_eq_true rfl) rfl ?_
                refine ex_bne rfl (fun h6 => ?_) (fun h6 => ?_)
                · refine ex_st 5 (pc' := 29) (ls' := [(2, xi 0), (0, xr 143), (1, xi x)]) (st' := [xi ((x_up (x_up I 4 3 x) 1 4 4) 143 2), xi 0]) rfl ?_
                  rw [(x_up_far (by first | decide | omega) : (x_up (x_up I 4 3 x) 1 4 4) 143 2 = (x_up I 4 3 x) 143 2)]
                  rw [(x_up_far (by first | decide | omega) : (x_up I 4 3 x) 143 2 = I 143 2)]
                  rw [hq0]
                  refine ex_st 1 (pc' := 32) (ls' := [(2, xi 0), (0, xr 143), (1, xi x)]) (st' := []) rfl ?_
                  refine ex_st 3 (pc' := 37) (ls' := [(2, xi 0), (0, xr 143), (1, xi x)]) (st' := [xi 0, xr 150]) rfl ?_
                  refine ex_iald (j := 0) rfl (by decide) (rfl : xSH[150]? = some _) (by decide) (by decide) (by decide) ?_
                  rw [(x_up_far (by first | decide | omega) : (x_up (x_up I 4 3 x) 1 4 4) 150 0 = (x_up I 4 3 x) 150 0)]
                  rw [(x_up_far (by first | decide | omega) : (x_up I 4 3 x) 150 0 = I 150 0)]
                  refine ex_st 1 (pc' := 39) (ls' := [(2, xi 0), (0, xr 143), (1, xi x)]) (st' := [xi x, xi (I 150 0)]) rfl ?_
                  refine ex_ic rfl (by first | omega | (constructor <;> omega) | assumption) (by first | omega | (constructor <;> omega) | assumption) (fun (h7 : ¬ (I 150 0) = x) => ?_) (fun (h7 : ¬ ¬ (I 150 0) = x) => ?_)
                  · refine ex_st 5 (pc' := 29) (ls' := [(2, xi 1), (0, xr 143), (1, xi x)]) (st' := [xi ((x_up (x_up I 4 3 x) 1 4 4) 143 2), xi 1]) rfl ?_
                    rw [(x_up_far (by first | decide | omega) : (x_up (x_up I 4 3 x) 1 4 4) 143 2 = (x_up I 4 3 x) 143 2)]
                    rw [(x_up_far (by first | decide | omega) : (x_up I 4 3 x) 143 2 = I 143 2)]
                    rw [hq0]
                    refine ex_st 1 (pc' := 32) (ls' := [(2, xi 1), (0, xr 143), (1, xi x)]) (st' := []) rfl ?_
                    refine ex_st 3 (pc' := 37) (ls' := [(2, xi 1), (0, xr 143), (1, xi x)]) (st' := [xi 1, xr 150]) rfl ?_
                    refine ex_iald (j := 1) rfl (by decide) (rfl : xSH[150]? = some _) (by decide) (by decide) (by decide) ?_
                    rw [(x_up_far (by first | decide | omega) : (x_up (x_up I 4 3 x) 1 4 4) 150 1 = (x_up I 4 3 x) 150 1)]
                    rw [(x_up_far (by first | decide | omega) : (x_up I 4 3 x) 150 1 = I 150 1)]
                    refine ex_st 1 (pc' := 39) (ls' := [(2, xi 1), (0, xr 143), (1, xi x)]) (st' := [xi x, xi (I 150 1)]) rfl ?_
                    refine ex_ic rfl (by first | omega | (constructor <;> omega) | assumption) (by first | omega | (constructor <;> omega) | assumption) (fun (h8 : ¬ (I 150 1) = x) => ?_) (fun (h8 : ¬ ¬ (I 150 1) = x) => ?_)
                    · refine ex_st 5 (pc' := 29) (ls' := [(2, xi 2), (0, xr 143), (1, xi x)]) (st' := [xi ((x_up (x_up I 4 3 x) 1 4 4) 143 2), xi 2]) rfl ?_
                      rw [(x_up_far (by first | decide | omega) : (x_up (x_up I 4 3 x) 1 4 4) 143 2 = (x_up I 4 3 x) 143 2)]
                      rw [(x_up_far (by first | decide | omega) : (x_up I 4 3 x) 143 2 = I 143 2)]
                      rw [hq0]
                      refine ex_st 1 (pc' := 32) (ls' := [(2, xi 2), (0, xr 143), (1, xi x)]) (st' := []) rfl ?_
                      refine ex_st 3 (pc' := 37) (ls' := [(2, xi 2), (0, xr 143), (1, xi x)]) (st' := [xi 2, xr 150]) rfl ?_
                      refine ex_iald (j := 2) rfl (by decide) (rfl : xSH[150]? = some _) (by decide) (by decide) (by decide) ?_
                      rw [(x_up_far (by first | decide | omega) : (x_up (x_up I 4 3 x) 1 4 4) 150 2 = (x_up I 4 3 x) 150 2)]
                      rw [(x_up_far (by first | decide | omega) : (x_up I 4 3 x) 150 2 = I 150 2)]
                      refine ex_st 1 (pc' := 39) (ls' := [(2, xi 2), (0, xr 143), (1, xi x)]) (st' := [xi x, xi (I 150 2)]) rfl ?_
                      refine ex_ic rfl (by first | omega | (constructor <;> omega) | assumption) (by first | omega | (constructor <;> omega) | assumption) (fun (h9 : ¬ (I 150 2) = x) => ?_) (fun (h9 : ¬ ¬ (I 150 2) = x) => ?_)
                      · refine ex_st 5 (pc' := 29) (ls' := [(2, xi 3), (0, xr 143), (1, xi x)]) (st' := [xi ((x_up (x_up I 4 3 x) 1 4 4) 143 2), xi 3]) rfl ?_
                        rw [(x_up_far (by first | decide | omega) : (x_up (x_up I 4 3 x) 1 4 4) 143 2 = (x_up I 4 3 x) 143 2)]
                        rw [(x_up_far (by first | decide | omega) : (x_up I 4 3 x) 143 2 = I 143 2)]
                        rw [hq0]
                        refine ex_st 1 (pc' := 51) (ls' := [(2, xi 3), (0, xr 143), (1, xi x)]) (st' := []) rfl ?_
                        refine ex_st 4 (pc' := 59) (ls' := [(2, xi 3), (0, xr 143), (1, xi x)]) (st' := [xi ((x_up (x_up I 4 3 x) 1 4 4) 143 2), xr 150]) rfl ?_
                        rw [(x_up_far (by first | decide | omega) : (x_up (x_up I 4 3 x) 1 4 4) 143 2 = (x_up I 4 3 x) 143 2)]
                        rw [(x_up_far (by first | decide | omega) : (x_up I 4 3 x) 143 2 = I 143 2)]
                        rw [hq0]
                        refine ex_st 1 (pc' := 60) (ls' := [(2, xi 3), (0, xr 143), (1, xi x)]) (st' := [xi x, xi 3, xr 150]) rfl ?_
                        refine ex_iast (j := 3) rfl (by decide) (rfl : xSH[150]? = some _) (by decide) (by decide) (by decide) ?_
                        refine ex_st 3 (pc' := 66) (ls' := [(2, xi 3), (0, xr 143), (1, xi x)]) (st' := [xi ((x_up (x_up (x_up I 4 3 x) 1 4 4) 150 3 x) 143 2), xr 143]) rfl ?_
                        rw [(x_up_far (by first | decide | omega) : (x_up (x_up (x_up I 4 3 x) 1 4 4) 150 3 x) 143 2 = (x_up (x_up I 4 3 x) 1 4 4) 143 2)]
                        rw [(x_up_far (by first | decide | omega) : (x_up (x_up I 4 3 x) 1 4 4) 143 2 = (x_up I 4 3 x) 143 2)]
                        rw [(x_up_far (by first | decide | omega) : (x_up I 4 3 x) 143 2 = I 143 2)]
                        rw [hq0]
                        refine ex_st 2 (pc' := 68) (ls' := [(2, xi 3), (0, xr 143), (1, xi x)]) (st' := [xi 4, xr 143]) rfl ?_
                        refine ex_pfi rfl (by decide) (rfl : xSH[143]? = some _) (by decide) rfl (by decide) (fun h => by cases h) ?_
                        refine ex_st 2 (pc' := 75) (ls' := [(2, xi 3), (0, xr 143), (1, xi x)]) (st' := [xi ((x_up (x_up (x_up (x_up I 4 3 x) 1 4 4) 150 3 x) 143 2 4) 143 2)]) rfl ?_
                        rw [x_up_at (x_up (x_up (x_up I 4 3 x) 1 4 4) 150 3 x) 143 2 4]
                        refine ex_reti rfl rfl ?_
                        refine ⟨x_req (by first | rfl | omega), ?_⟩
                        have hno : ∀ y : Nat, y < 3 → I 150 y ≠ x := by
                          intro y hy
                          have h4 := g4 y (by omega)
                          rcases (show y = 0 ∨ y = 1 ∨ y = 2 by omega) with rfl | rfl | rfl <;> omega
                        refine ⟨_, _, rfl, ?_⟩
                        generalize hM : (x_up (x_up (x_up (x_up I 4 3 x) 1 4 4) 150 3 x) 143 2 4) = I2
                        have hF : ∀ k j, ¬ ((k = 143 ∧ j = 2) ∨ (k = 150 ∧ j = 3) ∨ (k = 1 ∧ j = 4) ∨ (k = 4 ∧ j = 3)) → I2 k j = I k j := by intro k j hk; rw [← hM]; (repeat rw [x_up_far (by omega)])
                        have hw0 : I2 143 2 = 4 := by rw [← hM]; (repeat (first | rw [x_up_far (by omega)] | rw [x_up_at2 (by omega) (by omega)]))
                        have hw1 : I2 150 3 = x := by rw [← hM]; (repeat (first | rw [x_up_far (by omega)] | rw [x_up_at2 (by omega) (by omega)]))
                        have hw2 : I2 1 4 = 4 := by rw [← hM]; (repeat (first | rw [x_up_far (by omega)] | rw [x_up_at2 (by omega) (by omega)]))
                        have hw3 : I2 4 3 = x := by rw [← hM]; (repeat (first | rw [x_up_far (by omega)] | rw [x_up_at2 (by omega) (by omega)]))
                        clear hM
                        have hI2 : RIw I2 := by
                          obtain ⟨gs, go, ga, gb, gr, gd, gg, ge, gp, gk⟩ := id hI
                          exact ⟨gs.fr ⟨by (repeat rw [hF _ _ (by omega)]); try rfl, by (repeat rw [hF _ _ (by omega)]); try rfl, by (repeat rw [hF _ _ (by omega)]); try rfl, by (repeat rw [hF _ _ (by omega)]); try rfl, by (repeat rw [hF _ _ (by omega)]); try rfl, by (repeat rw [hF _ _ (by omega)]); try rfl, by (repeat rw [hF _ _ (by omega)]); try rfl, by (repeat rw [hF _ _ (by omega)]); try rfl, by (repeat rw [hF _ _ (by omega)]); try rfl⟩, go.fr (by intros; (repeat rw [hF _ _ (by omega)]); try rfl) (by intros; (repeat rw [hF _ _ (by omega)]); try rfl), ga.fr (by intros; (repeat rw [hF _ _ (by omega)]); try rfl) (by (repeat rw [hF _ _ (by omega)]); try rfl), gb.fr (by intros; (repeat rw [hF _ _ (by omega)]); try rfl) (by intros; (repeat rw [hF _ _ (by omega)]); try rfl), gr.fr (by intros; (repeat rw [hF _ _ (by omega)]); try rfl) (by intros; (repeat rw [hF _ _ (by omega)]); try rfl), gd.fr (by intros; (repeat rw [hF _ _ (by omega)]); try rfl) (by intros; (repeat rw [hF _ _ (by omega)]); try rfl) (by (repeat rw [hF _ _ (by omega)]); try rfl), gg.fr ⟨by (repeat rw [hF _ _ (by omega)]); try rfl, by (repeat rw [hF _ _ (by omega)]); try rfl⟩ (by intros; (repeat rw [hF _ _ (by omega)]); try rfl) (by intros; (repeat rw [hF _ _ (by omega)]); try rfl), ge.fr ⟨by (repeat rw [hF _ _ (by omega)]); try rfl, by (repeat rw [hF _ _ (by omega)]); try rfl, by (repeat rw [hF _ _ (by omega)]); try rfl⟩ (by intros; (repeat rw [hF _ _ (by omega)]); try rfl) (by intros; (repeat rw [hF _ _ (by omega)]); try rfl), gp.fr ⟨by (repeat rw [hF _ _ (by omega)]); try rfl, by (repeat rw [hF _ _ (by omega)]); try rfl, by (repeat rw [hF _ _ (by omega)]); try rfl⟩ (by intros; (repeat rw [hF _ _ (by omega)]); try rfl) (by intros; (repeat rw [hF _ _ (by omega)]); try rfl), gk.fr ⟨by (repeat rw [hF _ _ (by omega)]); try rfl, by (repeat rw [hF _ _ (by omega)]); try rfl, by (repeat rw [hF _ _ (by omega)]); try rfl⟩ (by intros; (repeat rw [hF _ _ (by omega)]); try rfl) (by intros; (repeat rw [hF _ _ (by omega)]); try rfl)⟩
                        refine ⟨⟨hNs.fr ⟨by (repeat rw [hF _ _ (by omega)]); try rfl, by (repeat rw [hF _ _ (by omega)]); try rfl, by (repeat rw [hF _ _ (by omega)]); try rfl, by (repeat rw [hF _ _ (by omega)]); try rfl, by (repeat rw [hF _ _ (by omega)]); try rfl, by (repeat rw [hF _ _ (by omega)]); try rfl, by (repeat rw [hF _ _ (by omega)]); try rfl, by (repeat rw [hF _ _ (by omega)]); try rfl, by (repeat rw [hF _ _ (by omega)]); try rfl⟩, hNo.fr (by intros; (repeat rw [hF _ _ (by omega)]); try rfl) (by intros; (repeat rw [hF _ _ (by omega)]); try rfl), hNa.fr (by intros; (repeat rw [hF _ _ (by omega)]); try rfl) (by (repeat rw [hF _ _ (by omega)]); try rfl), hNb.fr (by intros; (repeat rw [hF _ _ (by omega)]); try rfl) (by intros; (repeat rw [hF _ _ (by omega)]); try rfl), hNr.fr (by intros; (repeat rw [hF _ _ (by omega)]); try rfl) (by intros; (repeat rw [hF _ _ (by omega)]); try rfl), hNd.fr (by intros; (repeat rw [hF _ _ (by omega)]); try rfl) (by intros; (repeat rw [hF _ _ (by omega)]); try rfl) (by (repeat rw [hF _ _ (by omega)]); try rfl), ?_, hNe.fr ⟨by (repeat rw [hF _ _ (by omega)]); try rfl, by (repeat rw [hF _ _ (by omega)]); try rfl, by (repeat rw [hF _ _ (by omega)]); try rfl⟩ (by intros; (repeat rw [hF _ _ (by omega)]); try rfl) (by intros; (repeat rw [hF _ _ (by omega)]); try rfl), hNp.fr ⟨by (repeat rw [hF _ _ (by omega)]); try rfl, by (repeat rw [hF _ _ (by omega)]); try rfl, by (repeat rw [hF _ _ (by omega)]); try rfl⟩ (by intros; (repeat rw [hF _ _ (by omega)]); try rfl) (by intros; (repeat rw [hF _ _ (by omega)]); try rfl), hNk.fr ⟨by (repeat rw [hF _ _ (by omega)]); try rfl, by (repeat rw [hF _ _ (by omega)]); try rfl, by (repeat rw [hF _ _ (by omega)]); try rfl⟩ (by intros; (repeat rw [hF _ _ (by omega)]); try rfl) (by intros; (repeat rw [hF _ _ (by omega)]); try rfl)⟩, hI2, hT.fr ⟨by (repeat rw [hF _ _ (by omega)]); try rfl, by (repeat rw [hF _ _ (by omega)]); try rfl⟩ (by intros; (repeat rw [hF _ _ (by omega)]); try rfl) (by intros; (repeat rw [hF _ _ (by omega)]); try rfl) (by intros; (repeat rw [hF _ _ (by omega)]); try rfl), hX.fr ⟨by (repeat rw [hF _ _ (by omega)]); try rfl, by (repeat rw [hF _ _ (by omega)]); try rfl⟩ (by intros; (repeat rw [hF _ _ (by omega)]); try rfl), hC.fr ⟨by (repeat rw [hF _ _ (by omega)]); try rfl, by (repeat rw [hF _ _ (by omega)]); try rfl⟩ (by intros; (repeat rw [hF _ _ (by omega)]); try rfl), hH.fr ⟨by (repeat rw [hF _ _ (by omega)]); try rfl, by (repeat rw [hF _ _ (by omega)]); try rfl, by (repeat rw [hF _ _ (by omega)]); try rfl⟩ (by intros; (repeat rw [hF _ _ (by omega)]); try rfl) (by intros; (repeat rw [hF _ _ (by omega)]); try rfl), hQ.fr (by intros; (repeat rw [hF _ _ (by omega)]); try rfl) (by intros; (repeat rw [hF _ _ (by omega)]); try rfl) (by intros; (repeat rw [hF _ _ (by omega)]); try rfl) (by intros; (repeat rw [hF _ _ (by omega)]); try rfl)⟩
                        · refine ⟨by (repeat (first | rw [hw0] | rw [hw1] | rw [hw2] | rw [hw3] | rw [hF _ _ (by omega)])), by (repeat (first | rw [hw0] | rw [hw1] | rw [hw2] | rw [hw3] | rw [hF _ _ (by omega)])); omega, by (repeat (first | rw [hw0] | rw [hw1] | rw [hw2] | rw [hw3] | rw [hF _ _ (by omega)])); omega, fun y hy => ?_, fun y hy => ?_, fun y z hyz hz => ?_⟩
                          · by_cases e : y = 3
                            · subst e; (repeat (first | rw [hw0] | rw [hw1] | rw [hw2] | rw [hw3] | rw [hF _ _ (by omega)]))
                            · (repeat (first | rw [hw0] | rw [hw1] | rw [hw2] | rw [hw3] | rw [hF _ _ (by omega)])); exact g4 y hy
                          · rw [hw0] at hy; by_cases e : y = 3
                            · subst e; (repeat (first | rw [hw0] | rw [hw1] | rw [hw2] | rw [hw3] | rw [hF _ _ (by omega)])); omega
                            · have h := g5 y (by omega); (repeat (first | rw [hw0] | rw [hw1] | rw [hw2] | rw [hw3] | rw [hF _ _ (by omega)])); exact h
                          · rw [hw0] at hz; by_cases e : z = 3
                            · subst e; have h := hno y (by omega); (repeat (first | rw [hw0] | rw [hw1] | rw [hw2] | rw [hw3] | rw [hF _ _ (by omega)])); exact h
                            · have h := g6 y z hyz (by omega); (repeat (first | rw [hw0] | rw [hw1] | rw [hw2] | rw [hw3] | rw [hF _ _ (by omega)])); exact h
                      · exfalso; omega
                    · exfalso; omega
                  · exfalso; omega
                · exfalso; omega
              · exfalso; omega
            · refine ex_st 1 (pc' := 21) (ls' := [(2, xi 2), (0, xr 1), (1, xi x)]) (st' := [xi 0]) rfl ?_
              refine ex_retz rfl (Or.inl rfl) rfl ?_
              refine ex_st 1 (pc' := 45) (ls' := [(0, xr 0), (1, xi x)]) (st' := []) rfl ?_
              refine ex_st 1 (pc' := 47) (ls' := [(0, xr 0), (1, xi x)]) (st' := [xi (-3)]) rfl ?_
              refine ex_reti rfl rfl ?_
              refine x_CQ.of (M := xM_m_put) rfl (Nat.le_of_ble_eq_true rfl) ?_
              refine ex_st 2 (pc' := 2) (ls' := [(0, xr 143), (1, xi x)]) (st' := [xi (-1), xi x]) rfl ?_
              refine ex_ic rfl (by first | omega | (constructor <;> omega) | assumption) (by decide) (fun (h10 : ¬ x = (-1)) => ?_) (fun (h10 : ¬ ¬ x = (-1)) => ?_)
              · refine ex_st 2 (pc' := 14) (ls' := [(0, xr 143), (1, xi x)]) (st' := [xi x, xr 143]) rfl ?_
                refine ex_call (ct_m_isThing (by first | omega | (constructor <;> omega) | assumption)) (by decide) rfl ⟨rfl, rfl, rfl⟩ ⟨Nat.le_of_ble_eq_true rfl, rfl, rfl⟩ (Nat.le_of_ble_eq_true rfl) rfl ?_
                refine ex_bne rfl (fun h11 => ?_) (fun h11 => ?_)
                · refine ex_st 5 (pc' := 29) (ls' := [(2, xi 0), (0, xr 143), (1, xi x)]) (st' := [xi (I 143 2), xi 0]) rfl ?_
                  rw [hq0]
                  refine ex_st 1 (pc' := 32) (ls' := [(2, xi 0), (0, xr 143), (1, xi x)]) (st' := []) rfl ?_
                  refine ex_st 3 (pc' := 37) (ls' := [(2, xi 0), (0, xr 143), (1, xi x)]) (st' := [xi 0, xr 150]) rfl ?_
                  refine ex_iald (j := 0) rfl (by decide) (rfl : xSH[150]? = some _) (by decide) (by decide) (by decide) ?_
                  refine ex_st 1 (pc' := 39) (ls' := [(2, xi 0), (0, xr 143), (1, xi x)]) (st' := [xi x, xi (I 150 0)]) rfl ?_
                  refine ex_ic rfl (by first | omega | (constructor <;> omega) | assumption) (by first | omega | (constructor <;> omega) | assumption) (fun (h12 : ¬ (I 150 0) = x) => ?_) (fun (h12 : ¬ ¬ (I 150 0) = x) => ?_)
                  · refine ex_st 5 (pc' := 29) (ls' := [(2, xi 1), (0, xr 143), (1, xi x)]) (st' := [xi (I 143 2), xi 1]) rfl ?_
                    rw [hq0]
                    refine ex_st 1 (pc' := 32) (ls' := [(2, xi 1), (0, xr 143), (1, xi x)]) (st' := []) rfl ?_
                    refine ex_st 3 (pc' := 37) (ls' := [(2, xi 1), (0, xr 143), (1, xi x)]) (st' := [xi 1, xr 150]) rfl ?_
                    refine ex_iald (j := 1) rfl (by decide) (rfl : xSH[150]? = some _) (by decide) (by decide) (by decide) ?_
                    refine ex_st 1 (pc' := 39) (ls' := [(2, xi 1), (0, xr 143), (1, xi x)]) (st' := [xi x, xi (I 150 1)]) rfl ?_
                    refine ex_ic rfl (by first | omega | (constructor <;> omega) | assumption) (by first | omega | (constructor <;> omega) | assumption) (fun (h13 : ¬ (I 150 1) = x) => ?_) (fun (h13 : ¬ ¬ (I 150 1) = x) => ?_)
                    · refine ex_st 5 (pc' := 29) (ls' := [(2, xi 2), (0, xr 143), (1, xi x)]) (st' := [xi (I 143 2), xi 2]) rfl ?_
                      rw [hq0]
                      refine ex_st 1 (pc' := 32) (ls' := [(2, xi 2), (0, xr 143), (1, xi x)]) (st' := []) rfl ?_
                      refine ex_st 3 (pc' := 37) (ls' := [(2, xi 2), (0, xr 143), (1, xi x)]) (st' := [xi 2, xr 150]) rfl ?_
                      refine ex_iald (j := 2) rfl (by decide) (rfl : xSH[150]? = some _) (by decide) (by decide) (by decide) ?_
                      refine ex_st 1 (pc' := 39) (ls' := [(2, xi 2), (0, xr 143), (1, xi x)]) (st' := [xi x, xi (I 150 2)]) rfl ?_
                      refine ex_ic rfl (by first | omega | (constructor <;> omega) | assumption) (by first | omega | (constructor <;> omega) | assumption) (fun (h14 : ¬ (I 150 2) = x) => ?_) (fun (h14 : ¬ ¬ (I 150 2) = x) => ?_)
                      · exfalso; omega
                      · refine ex_st 1 (pc' := 44) (ls' := [(2, xi 2), (0, xr 143), (1, xi x)]) (st' := [xi (-3)]) rfl ?_
                        refine ex_reti rfl rfl ?_
                        exact ⟨x_req (by first | rfl | omega), _, _, rfl, hR⟩
                    · exfalso; omega
                  · exfalso; omega
                · exfalso; omega
              · exfalso; omega
          · refine ex_st 1 (pc' := 21) (ls' := [(2, xi 1), (0, xr 1), (1, xi x)]) (st' := [xi 0]) rfl ?_
            refine ex_retz rfl (Or.inl rfl) rfl ?_
            refine ex_st 1 (pc' := 45) (ls' := [(0, xr 0), (1, xi x)]) (st' := []) rfl ?_
            refine ex_st 1 (pc' := 47) (ls' := [(0, xr 0), (1, xi x)]) (st' := [xi (-3)]) rfl ?_
            refine ex_reti rfl rfl ?_
            refine x_CQ.of (M := xM_m_put) rfl (Nat.le_of_ble_eq_true rfl) ?_
            refine ex_st 2 (pc' := 2) (ls' := [(0, xr 143), (1, xi x)]) (st' := [xi (-1), xi x]) rfl ?_
            refine ex_ic rfl (by first | omega | (constructor <;> omega) | assumption) (by decide) (fun (h15 : ¬ x = (-1)) => ?_) (fun (h15 : ¬ ¬ x = (-1)) => ?_)
            · refine ex_st 2 (pc' := 14) (ls' := [(0, xr 143), (1, xi x)]) (st' := [xi x, xr 143]) rfl ?_
              refine ex_call (ct_m_isThing (by first | omega | (constructor <;> omega) | assumption)) (by decide) rfl ⟨rfl, rfl, rfl⟩ ⟨Nat.le_of_ble_eq_true rfl, rfl, rfl⟩ (Nat.le_of_ble_eq_true rfl) rfl ?_
              refine ex_bne rfl (fun h16 => ?_) (fun h16 => ?_)
              · refine ex_st 5 (pc' := 29) (ls' := [(2, xi 0), (0, xr 143), (1, xi x)]) (st' := [xi (I 143 2), xi 0]) rfl ?_
                rw [hq0]
                refine ex_st 1 (pc' := 32) (ls' := [(2, xi 0), (0, xr 143), (1, xi x)]) (st' := []) rfl ?_
                refine ex_st 3 (pc' := 37) (ls' := [(2, xi 0), (0, xr 143), (1, xi x)]) (st' := [xi 0, xr 150]) rfl ?_
                refine ex_iald (j := 0) rfl (by decide) (rfl : xSH[150]? = some _) (by decide) (by decide) (by decide) ?_
                refine ex_st 1 (pc' := 39) (ls' := [(2, xi 0), (0, xr 143), (1, xi x)]) (st' := [xi x, xi (I 150 0)]) rfl ?_
                refine ex_ic rfl (by first | omega | (constructor <;> omega) | assumption) (by first | omega | (constructor <;> omega) | assumption) (fun (h17 : ¬ (I 150 0) = x) => ?_) (fun (h17 : ¬ ¬ (I 150 0) = x) => ?_)
                · refine ex_st 5 (pc' := 29) (ls' := [(2, xi 1), (0, xr 143), (1, xi x)]) (st' := [xi (I 143 2), xi 1]) rfl ?_
                  rw [hq0]
                  refine ex_st 1 (pc' := 32) (ls' := [(2, xi 1), (0, xr 143), (1, xi x)]) (st' := []) rfl ?_
                  refine ex_st 3 (pc' := 37) (ls' := [(2, xi 1), (0, xr 143), (1, xi x)]) (st' := [xi 1, xr 150]) rfl ?_
                  refine ex_iald (j := 1) rfl (by decide) (rfl : xSH[150]? = some _) (by decide) (by decide) (by decide) ?_
                  refine ex_st 1 (pc' := 39) (ls' := [(2, xi 1), (0, xr 143), (1, xi x)]) (st' := [xi x, xi (I 150 1)]) rfl ?_
                  refine ex_ic rfl (by first | omega | (constructor <;> omega) | assumption) (by first | omega | (constructor <;> omega) | assumption) (fun (h18 : ¬ (I 150 1) = x) => ?_) (fun (h18 : ¬ ¬ (I 150 1) = x) => ?_)
                  · exfalso; omega
                  · refine ex_st 1 (pc' := 44) (ls' := [(2, xi 1), (0, xr 143), (1, xi x)]) (st' := [xi (-3)]) rfl ?_
                    refine ex_reti rfl rfl ?_
                    exact ⟨x_req (by first | rfl | omega), _, _, rfl, hR⟩
                · exfalso; omega
              · exfalso; omega
            · exfalso; omega
        · refine ex_st 1 (pc' := 21) (ls' := [(2, xi 0), (0, xr 1), (1, xi x)]) (st' := [xi 0]) rfl ?_
          refine ex_retz rfl (Or.inl rfl) rfl ?_
          refine ex_st 1 (pc' := 45) (ls' := [(0, xr 0), (1, xi x)]) (st' := []) rfl ?_
          refine ex_st 1 (pc' := 47) (ls' := [(0, xr 0), (1, xi x)]) (st' := [xi (-3)]) rfl ?_
          refine ex_reti rfl rfl ?_
          refine x_CQ.of (M := xM_m_put) rfl (Nat.le_of_ble_eq_true rfl) ?_
          refine ex_st 2 (pc' := 2) (ls' := [(0, xr 143), (1, xi x)]) (st' := [xi (-1), xi x]) rfl ?_
          refine ex_ic rfl (by first | omega | (constructor <;> omega) | assumption) (by decide) (fun (h19 : ¬ x = (-1)) => ?_) (fun (h19 : ¬ ¬ x = (-1)) => ?_)
          · refine ex_st 2 (pc' := 14) (ls' := [(0, xr 143), (1, xi x)]) (st' := [xi x, xr 143]) rfl ?_
            refine ex_call (ct_m_isThing (by first | omega | (constructor <;> omega) | assumption)) (by decide) rfl ⟨rfl, rfl, rfl⟩ ⟨Nat.le_of_ble_eq_true rfl, rfl, rfl⟩ (Nat.le_of_ble_eq_true rfl) rfl ?_
            refine ex_bne rfl (fun h20 => ?_) (fun h20 => ?_)
            · refine ex_st 5 (pc' := 29) (ls' := [(2, xi 0), (0, xr 143), (1, xi x)]) (st' := [xi (I 143 2), xi 0]) rfl ?_
              rw [hq0]
              refine ex_st 1 (pc' := 32) (ls' := [(2, xi 0), (0, xr 143), (1, xi x)]) (st' := []) rfl ?_
              refine ex_st 3 (pc' := 37) (ls' := [(2, xi 0), (0, xr 143), (1, xi x)]) (st' := [xi 0, xr 150]) rfl ?_
              refine ex_iald (j := 0) rfl (by decide) (rfl : xSH[150]? = some _) (by decide) (by decide) (by decide) ?_
              refine ex_st 1 (pc' := 39) (ls' := [(2, xi 0), (0, xr 143), (1, xi x)]) (st' := [xi x, xi (I 150 0)]) rfl ?_
              refine ex_ic rfl (by first | omega | (constructor <;> omega) | assumption) (by first | omega | (constructor <;> omega) | assumption) (fun (h21 : ¬ (I 150 0) = x) => ?_) (fun (h21 : ¬ ¬ (I 150 0) = x) => ?_)
              · exfalso; omega
              · refine ex_st 1 (pc' := 44) (ls' := [(2, xi 0), (0, xr 143), (1, xi x)]) (st' := [xi (-3)]) rfl ?_
                refine ex_reti rfl rfl ?_
                exact ⟨x_req (by first | rfl | omega), _, _, rfl, hR⟩
            · exfalso; omega
          · exfalso; omega
      · refine ex_st 1 (pc' := 23) (ls' := [(0, xr 0), (1, xi x)]) (st' := [xi (-1)]) rfl ?_
        refine ex_reti rfl rfl ?_
        refine x_CQ.of (M := xM_m_put) rfl (Nat.le_of_ble_eq_true rfl) ?_
        refine ex_st 2 (pc' := 2) (ls' := [(0, xr 143), (1, xi x)]) (st' := [xi (-1), xi x]) rfl ?_
        refine ex_ic rfl (by first | omega | (constructor <;> omega) | assumption) (by decide) (fun (h22 : ¬ x = (-1)) => ?_) (fun (h22 : ¬ ¬ x = (-1)) => ?_)
        · refine ex_st 2 (pc' := 14) (ls' := [(0, xr 143), (1, xi x)]) (st' := [xi x, xr 143]) rfl ?_
          refine ex_call (ct_m_isThing (by first | omega | (constructor <;> omega) | assumption)) (by decide) rfl ⟨rfl, rfl, rfl⟩ ⟨Nat.le_of_ble_eq_true rfl, rfl, rfl⟩ (Nat.le_of_ble_eq_true rfl) rfl ?_
          refine ex_bne rfl (fun h23 => ?_) (fun h23 => ?_)
          · exfalso; omega
          · refine ex_st 1 (pc' := 21) (ls' := [(0, xr 143), (1, xi x)]) (st' := [xi (-1)]) rfl ?_
            refine ex_reti rfl rfl ?_
            exact ⟨x_req (by first | rfl | omega), _, _, rfl, hR⟩
        · exfalso; omega
    · refine ex_st 3 (pc' := 10) (ls' := [(0, xr 0), (1, xi x)]) (st' := [xi 0, xr 1]) rfl ?_
      refine ex_pfi rfl (by decide) (rfl : xSH[1]? = some _) (by decide) rfl (by decide) (fun h => by cases h) ?_
      refine ex_st 1 (pc' := 14) (ls' := [(0, xr 0), (1, xi x)]) (st' := [xi 0]) rfl ?_
      refine ex_reti rfl rfl ?_
      refine x_CQ.of (M := xM_m_put) rfl (Nat.le_of_ble_eq_true rfl) ?_
      refine ex_st 2 (pc' := 2) (ls' := [(0, xr 143), (1, xi x)]) (st' := [xi (-1), xi x]) rfl ?_
      refine ex_ic rfl (by first | omega | (constructor <;> omega) | assumption) (by decide) (fun (h24 : ¬ x = (-1)) => ?_) (fun (h24 : ¬ ¬ x = (-1)) => ?_)
      · exfalso; omega
      · refine ex_st 2 (pc' := 7) (ls' := [(0, xr 143), (1, xi x)]) (st' := [xi 0, xr 143]) rfl ?_
        refine ex_pfi rfl (by decide) (rfl : xSH[143]? = some _) (by decide) rfl (by decide) (fun h => by cases h) ?_
        refine ex_st 1 (pc' := 11) (ls' := [(0, xr 143), (1, xi x)]) (st' := [xi 0]) rfl ?_
        refine ex_reti rfl rfl ?_
        refine ⟨x_req (by first | rfl | omega), ?_⟩
        refine ⟨_, _, rfl, ?_⟩
        generalize hM : (x_up (x_up I 1 4 0) 143 2 0) = I2
        have hF : ∀ k j, ¬ ((k = 143 ∧ j = 2) ∨ (k = 1 ∧ j = 4)) → I2 k j = I k j := by intro k j hk; rw [← hM]; (repeat rw [x_up_far (by omega)])
        have hw0 : I2 143 2 = 0 := by rw [← hM]; (repeat (first | rw [x_up_far (by omega)] | rw [x_up_at2 (by omega) (by omega)]))
        have hw1 : I2 1 4 = 0 := by rw [← hM]; (repeat (first | rw [x_up_far (by omega)] | rw [x_up_at2 (by omega) (by omega)]))
        clear hM
        have hI2 : RIw I2 := by
          obtain ⟨gs, go, ga, gb, gr, gd, gg, ge, gp, gk⟩ := id hI
          exact ⟨gs.fr ⟨by (repeat rw [hF _ _ (by omega)]); try rfl, by (repeat rw [hF _ _ (by omega)]); try rfl, by (repeat rw [hF _ _ (by omega)]); try rfl, by (repeat rw [hF _ _ (by omega)]); try rfl, by (repeat rw [hF _ _ (by omega)]); try rfl, by (repeat rw [hF _ _ (by omega)]); try rfl, by (repeat rw [hF _ _ (by omega)]); try rfl, by (repeat rw [hF _ _ (by omega)]); try rfl, by (repeat rw [hF _ _ (by omega)]); try rfl⟩, go.fr (by intros; (repeat rw [hF _ _ (by omega)]); try rfl) (by intros; (repeat rw [hF _ _ (by omega)]); try rfl), ga.fr (by intros; (repeat rw [hF _ _ (by omega)]); try rfl) (by (repeat rw [hF _ _ (by omega)]); try rfl), gb.fr (by intros; (repeat rw [hF _ _ (by omega)]); try rfl) (by intros; (repeat rw [hF _ _ (by omega)]); try rfl), gr.fr (by intros; (repeat rw [hF _ _ (by omega)]); try rfl) (by intros; (repeat rw [hF _ _ (by omega)]); try rfl), gd.fr (by intros; (repeat rw [hF _ _ (by omega)]); try rfl) (by intros; (repeat rw [hF _ _ (by omega)]); try rfl) (by (repeat rw [hF _ _ (by omega)]); try rfl), gg.fr ⟨by (repeat rw [hF _ _ (by omega)]); try rfl, by (repeat rw [hF _ _ (by omega)]); try rfl⟩ (by intros; (repeat rw [hF _ _ (by omega)]); try rfl) (by intros; (repeat rw [hF _ _ (by omega)]); try rfl), ge.fr ⟨by (repeat rw [hF _ _ (by omega)]); try rfl, by (repeat rw [hF _ _ (by omega)]); try rfl, by (repeat rw [hF _ _ (by omega)]); try rfl⟩ (by intros; (repeat rw [hF _ _ (by omega)]); try rfl) (by intros; (repeat rw [hF _ _ (by omega)]); try rfl), gp.fr ⟨by (repeat rw [hF _ _ (by omega)]); try rfl, by (repeat rw [hF _ _ (by omega)]); try rfl, by (repeat rw [hF _ _ (by omega)]); try rfl⟩ (by intros; (repeat rw [hF _ _ (by omega)]); try rfl) (by intros; (repeat rw [hF _ _ (by omega)]); try rfl), gk.fr ⟨by (repeat rw [hF _ _ (by omega)]); try rfl, by (repeat rw [hF _ _ (by omega)]); try rfl, by (repeat rw [hF _ _ (by omega)]); try rfl⟩ (by intros; (repeat rw [hF _ _ (by omega)]); try rfl) (by intros; (repeat rw [hF _ _ (by omega)]); try rfl)⟩
        refine ⟨⟨hNs.fr ⟨by (repeat rw [hF _ _ (by omega)]); try rfl, by (repeat rw [hF _ _ (by omega)]); try rfl, by (repeat rw [hF _ _ (by omega)]); try rfl, by (repeat rw [hF _ _ (by omega)]); try rfl, by (repeat rw [hF _ _ (by omega)]); try rfl, by (repeat rw [hF _ _ (by omega)]); try rfl, by (repeat rw [hF _ _ (by omega)]); try rfl, by (repeat rw [hF _ _ (by omega)]); try rfl, by (repeat rw [hF _ _ (by omega)]); try rfl⟩, hNo.fr (by intros; (repeat rw [hF _ _ (by omega)]); try rfl) (by intros; (repeat rw [hF _ _ (by omega)]); try rfl), hNa.fr (by intros; (repeat rw [hF _ _ (by omega)]); try rfl) (by (repeat rw [hF _ _ (by omega)]); try rfl), hNb.fr (by intros; (repeat rw [hF _ _ (by omega)]); try rfl) (by intros; (repeat rw [hF _ _ (by omega)]); try rfl), hNr.fr (by intros; (repeat rw [hF _ _ (by omega)]); try rfl) (by intros; (repeat rw [hF _ _ (by omega)]); try rfl), hNd.fr (by intros; (repeat rw [hF _ _ (by omega)]); try rfl) (by intros; (repeat rw [hF _ _ (by omega)]); try rfl) (by (repeat rw [hF _ _ (by omega)]); try rfl), ?_, hNe.fr ⟨by (repeat rw [hF _ _ (by omega)]); try rfl, by (repeat rw [hF _ _ (by omega)]); try rfl, by (repeat rw [hF _ _ (by omega)]); try rfl⟩ (by intros; (repeat rw [hF _ _ (by omega)]); try rfl) (by intros; (repeat rw [hF _ _ (by omega)]); try rfl), hNp.fr ⟨by (repeat rw [hF _ _ (by omega)]); try rfl, by (repeat rw [hF _ _ (by omega)]); try rfl, by (repeat rw [hF _ _ (by omega)]); try rfl⟩ (by intros; (repeat rw [hF _ _ (by omega)]); try rfl) (by intros; (repeat rw [hF _ _ (by omega)]); try rfl), hNk.fr ⟨by (repeat rw [hF _ _ (by omega)]); try rfl, by (repeat rw [hF _ _ (by omega)]); try rfl, by (repeat rw [hF _ _ (by omega)]); try rfl⟩ (by intros; (repeat rw [hF _ _ (by omega)]); try rfl) (by intros; (repeat rw [hF _ _ (by omega)]); try rfl)⟩, hI2, hT.fr ⟨by (repeat rw [hF _ _ (by omega)]); try rfl, by (repeat rw [hF _ _ (by omega)]); try rfl⟩ (by intros; (repeat rw [hF _ _ (by omega)]); try rfl) (by intros; (repeat rw [hF _ _ (by omega)]); try rfl) (by intros; (repeat rw [hF _ _ (by omega)]); try rfl), hX.fr ⟨by (repeat rw [hF _ _ (by omega)]); try rfl, by (repeat rw [hF _ _ (by omega)]); try rfl⟩ (by intros; (repeat rw [hF _ _ (by omega)]); try rfl), hC.fr ⟨by (repeat rw [hF _ _ (by omega)]); try rfl, by (repeat rw [hF _ _ (by omega)]); try rfl⟩ (by intros; (repeat rw [hF _ _ (by omega)]); try rfl), hH.fr ⟨by (repeat rw [hF _ _ (by omega)]); try rfl, by (repeat rw [hF _ _ (by omega)]); try rfl, by (repeat rw [hF _ _ (by omega)]); try rfl⟩ (by intros; (repeat rw [hF _ _ (by omega)]); try rfl) (by intros; (repeat rw [hF _ _ (by omega)]); try rfl), hQ.fr (by intros; (repeat rw [hF _ _ (by omega)]); try rfl) (by intros; (repeat rw [hF _ _ (by omega)]); try rfl) (by intros; (repeat rw [hF _ _ (by omega)]); try rfl) (by intros; (repeat rw [hF _ _ (by omega)]); try rfl)⟩
        · refine ⟨by (repeat (first | rw [hw0] | rw [hw1] | rw [hF _ _ (by omega)])), by (repeat (first | rw [hw0] | rw [hw1] | rw [hF _ _ (by omega)])); omega, by (repeat (first | rw [hw0] | rw [hw1] | rw [hF _ _ (by omega)])); omega, fun y hy => by (repeat (first | rw [hw0] | rw [hw1] | rw [hF _ _ (by omega)])); exact g4 y hy, fun y hy => ?_, fun y z hyz hz => ?_⟩ <;> (exfalso; rw [hw0] at *; omega)
  · have hq0 : I 143 2 = 4 := by omega
    have hq1 : I 1 4 = 4 := by omega
    have e0 := g4 0 (by decide)
    have e1 := g4 1 (by decide)
    have e2 := g4 2 (by decide)
    have e3 := g4 3 (by decide)
    have r0 := g5 0 (by omega)
    have r1 := g5 1 (by omega)
    have r2 := g5 2 (by omega)
    have r3 := g5 3 (by omega)
    refine x_CQ.of (M := xM_G_put) rfl (Nat.le_of_ble_eq_true rfl) ?_
    refine ex_st 2 (pc' := 2) (ls' := [(0, xr 0), (1, xi x)]) (st' := [xi (-1), xi x]) rfl ?_
    refine ex_ic rfl (by first | omega | (constructor <;> omega) | assumption) (by decide) (fun (h0 : ¬ x = (-1)) => ?_) (fun (h0 : ¬ ¬ x = (-1)) => ?_)
    · refine ex_st 1 (pc' := 16) (ls' := [(0, xr 0), (1, xi x)]) (st' := [xi x]) rfl ?_
      refine ex_call (ct_G_isThing (by first | omega | (constructor <;> omega) | assumption)) (by decide) rfl ⟨rfl, rfl, rfl⟩ ⟨Nat.le_of_ble_eq_true rfl, rfl, rfl⟩ (Nat.le_of_ble_eq_true rfl) rfl ?_
      refine ex_bne rfl (fun h1 => ?_) (fun h1 => ?_)
      · refine ex_st 3 (pc' := 29) (ls' := [(0, xr 0), (1, xi x)]) (st' := [xi x, xr 1]) rfl ?_
        refine ex_inl (M' := xM_W_putOnAgenda) (as := [xr 1, xi x]) (rest := []) (D' := 28) rfl (Nat.le_of_ble_eq_true rfl) (by decide) rfl ⟨rfl, rfl, rfl⟩ ⟨Nat.le_of_ble_eq_true rfl, rfl, rfl⟩ (Nat.le_of_ble_eq_true rfl) rfl ?_
        refine ex_st 5 (pc' := 7) (ls' := [(2, xi 0), (0, xr 1), (1, xi x)]) (st' := [xi (I 1 4), xi 0]) rfl ?_
        rw [hq1]
        refine ex_st 1 (pc' := 10) (ls' := [(2, xi 0), (0, xr 1), (1, xi x)]) (st' := []) rfl ?_
        refine ex_st 3 (pc' := 15) (ls' := [(2, xi 0), (0, xr 1), (1, xi x)]) (st' := [xi 0, xr 4]) rfl ?_
        refine ex_iald (j := 0) rfl (by decide) (rfl : xSH[4]? = some _) (by decide) (by decide) (by decide) ?_
        refine ex_st 1 (pc' := 17) (ls' := [(2, xi 0), (0, xr 1), (1, xi x)]) (st' := [xi x, xi (I 4 0)]) rfl ?_
        refine ex_ic rfl (by first | omega | (constructor <;> omega) | assumption) (by first | omega | (constructor <;> omega) | assumption) (fun (h2 : ¬ (I 4 0) = x) => ?_) (fun (h2 : ¬ ¬ (I 4 0) = x) => ?_)
        · refine ex_st 5 (pc' := 7) (ls' := [(2, xi 1), (0, xr 1), (1, xi x)]) (st' := [xi (I 1 4), xi 1]) rfl ?_
          rw [hq1]
          refine ex_st 1 (pc' := 10) (ls' := [(2, xi 1), (0, xr 1), (1, xi x)]) (st' := []) rfl ?_
          refine ex_st 3 (pc' := 15) (ls' := [(2, xi 1), (0, xr 1), (1, xi x)]) (st' := [xi 1, xr 4]) rfl ?_
          refine ex_iald (j := 1) rfl (by decide) (rfl : xSH[4]? = some _) (by decide) (by decide) (by decide) ?_
          refine ex_st 1 (pc' := 17) (ls' := [(2, xi 1), (0, xr 1), (1, xi x)]) (st' := [xi x, xi (I 4 1)]) rfl ?_
          refine ex_ic rfl (by first | omega | (constructor <;> omega) | assumption) (by first | omega | (constructor <;> omega) | assumption) (fun (h3 : ¬ (I 4 1) = x) => ?_) (fun (h3 : ¬ ¬ (I 4 1) = x) => ?_)
          · refine ex_st 5 (pc' := 7) (ls' := [(2, xi 2), (0, xr 1), (1, xi x)]) (st' := [xi (I 1 4), xi 2]) rfl ?_
            rw [hq1]
            refine ex_st 1 (pc' := 10) (ls' := [(2, xi 2), (0, xr 1), (1, xi x)]) (st' := []) rfl ?_
            refine ex_st 3 (pc' := 15) (ls' := [(2, xi 2), (0, xr 1), (1, xi x)]) (st' := [xi 2, xr 4]) rfl ?_
            refine ex_iald (j := 2) rfl (by decide) (rfl : xSH[4]? = some _) (by decide) (by decide) (by decide) ?_
            refine ex_st 1 (pc' := 17) (ls' := [(2, xi 2), (0, xr 1), (1, xi x)]) (st' := [xi x, xi (I 4 2)]) rfl ?_
            refine ex_ic rfl (by first | omega | (constructor <;> omega) | assumption) (by first | omega | (constructor <;> omega) | assumption) (fun (h4 : ¬ (I 4 2) = x) => ?_) (fun (h4 : ¬ ¬ (I 4 2) = x) => ?_)
            · refine ex_st 5 (pc' := 7) (ls' := [(2, xi 3), (0, xr 1), (1, xi x)]) (st' := [xi (I 1 4), xi 3]) rfl ?_
              rw [hq1]
              refine ex_st 1 (pc' := 10) (ls' := [(2, xi 3), (0, xr 1), (1, xi x)]) (st' := []) rfl ?_
              refine ex_st 3 (pc' := 15) (ls' := [(2, xi 3), (0, xr 1), (1, xi x)]) (st' := [xi 3, xr 4]) rfl ?_
              refine ex_iald (j := 3) rfl (by decide) (rfl : xSH[4]? = some _) (by decide) (by decide) (by decide) ?_
              refine ex_st 1 (pc' := 17) (ls' := [(2, xi 3), (0, xr 1), (1, xi x)]) (st' := [xi x, xi (I 4 3)]) rfl ?_
              refine ex_ic rfl (by first | omega | (constructor <;> omega) | assumption) (by first | omega | (constructor <;> omega) | assumption) (fun (h5 : ¬ (I 4 3) = x) => ?_) (fun (h5 : ¬ ¬ (I 4 3) = x) => ?_)
              · refine ex_st 5 (pc' := 7) (ls' := [(2, xi 4), (0, xr 1), (1, xi x)]) (st' := [xi (I 1 4), xi 4]) rfl ?_
                rw [hq1]
                refine ex_st 1 (pc' := 28) (ls' := [(2, xi 4), (0, xr 1), (1, xi x)]) (st' := []) rfl ?_
                refine ex_st 2 (pc' := 32) (ls' := [(2, xi 4), (0, xr 1), (1, xi x)]) (st' := [xi (I 1 4)]) rfl ?_
                rw [hq1]
                refine ex_st 1 (pc' := 33) (ls' := [(2, xi 4), (0, xr 1), (1, xi x)]) (st' := [xi 5, xi 4]) rfl ?_
                refine ex_st 1 (pc' := 38) (ls' := [(2, xi 4), (0, xr 1), (1, xi x)]) (st' := []) rfl ?_
                refine ex_st 4 (pc' := 46) (ls' := [(2, xi 4), (0, xr 1), (1, xi x)]) (st' := [xi (I 1 4), xr 4]) rfl ?_
                rw [hq1]
                refine ex_st 1 (pc' := 47) (ls' := [(2, xi 4), (0, xr 1), (1, xi x)]) (st' := [xi x, xi 4, xr 4]) rfl ?_
                refine ex_iast (j := 4) rfl (by decide) (rfl : xSH[4]? = some _) (by decide) (by decide) (by decide) ?_
                refine ex_st 3 (pc' := 53) (ls' := [(2, xi 4), (0, xr 1), (1, xi x)]) (st' := [xi ((x_up I 4 4 x) 1 4), xr 1]) rfl ?_
                rw [(x_up_far (by first | decide | omega) : (x_up I 4 4 x) 1 4 = I 1 4)]
                rw [hq1]
                refine ex_st 2 (pc' := 55) (ls' := [(2, xi 4), (0, xr 1), (1, xi x)]) (st' := [xi 5, xr 1]) rfl ?_
                refine ex_pfi rfl (by decide) (rfl : xSH[1]? = some _) (by decide) rfl (by decide) (fun h => by cases h) ?_
                refine ex_st 1 (pc' := 59) (ls' := [(2, xi 4), (0, xr 1), (1, xi x)]) (st' := [xi 1]) rfl ?_
                refine ex_retz rfl (Or.inr rfl) rfl ?_
                refine ex_st 1 (pc' := 35) (ls' := [(0, xr 0), (1, xi x)]) (st' := []) rfl ?_
                refine ex_st 3 (pc' := 42) (ls' := [(0, xr 0), (1, xi x)]) (st' := [xi ((x_up (x_up I 4 4 x) 1 4 5) 1 4)]) rfl ?_
                rw [x_up_at (x_up I 4 4 x) 1 4 5]
                refine ex_st 1 (pc' := 47) (ls' := [(0, xr 0), (1, xi x)]) (st' := [xi 5]) rfl ?_
                refine ex_reti rfl rfl ?_
                refine x_CQ.of (M := xM_m_put) rfl (Nat.le_of_ble_eq_true rfl) ?_
                refine ex_st 2 (pc' := 2) (ls' := [(0, xr 143), (1, xi x)]) (st' := [xi (-1), xi x]) rfl ?_
                refine ex_ic rfl (by first | omega | (constructor <;> omega) | assumption) (by decide) (fun (h6 : ¬ x = (-1)) => ?_) (fun (h6 : ¬ ¬ x = (-1)) => ?_)
                · refine ex_st 2 (pc' := 14) (ls' := [(0, xr 143), (1, xi x)]) (st' := [xi x, xr 143]) rfl ?_
                  refine ex_call (ct_m_isThing (by first | omega | (constructor <;> omega) | assumption)) (by decide) rfl ⟨rfl, rfl, rfl⟩ ⟨Nat.le_of_ble_eq_true rfl, rfl, rfl⟩ (Nat.le_of_ble_eq_true rfl) rfl ?_
                  refine ex_bne rfl (fun h7 => ?_) (fun h7 => ?_)
                  · refine ex_st 5 (pc' := 29) (ls' := [(2, xi 0), (0, xr 143), (1, xi x)]) (st' := [xi ((x_up (x_up I 4 4 x) 1 4 5) 143 2), xi 0]) rfl ?_
                    rw [(x_up_far (by first | decide | omega) : (x_up (x_up I 4 4 x) 1 4 5) 143 2 = (x_up I 4 4 x) 143 2)]
                    rw [(x_up_far (by first | decide | omega) : (x_up I 4 4 x) 143 2 = I 143 2)]
                    rw [hq0]
                    refine ex_st 1 (pc' := 32) (ls' := [(2, xi 0), (0, xr 143), (1, xi x)]) (st' := []) rfl ?_
                    refine ex_st 3 (pc' := 37) (ls' := [(2, xi 0), (0, xr 143), (1, xi x)]) (st' := [xi 0, xr 150]) rfl ?_
                    refine ex_iald (j := 0) rfl (by decide) (rfl : xSH[150]? = some _) (by decide) (by decide) (by decide) ?_
                    rw [(x_up_far (by first | decide | omega) : (x_up (x_up I 4 4 x) 1 4 5) 150 0 = (x_up I 4 4 x) 150 0)]
                    rw [(x_up_far (by first | decide | omega) : (x_up I 4 4 x) 150 0 = I 150 0)]
                    refine ex_st 1 (pc' := 39) (ls' := [(2, xi 0), (0, xr 143), (1, xi x)]) (st' := [xi x, xi (I 150 0)]) rfl ?_
                    refine ex_ic rfl (by first | omega | (constructor <;> omega) | assumption) (by first | omega | (constructor <;> omega) | assumption) (fun (h8 : ¬ (I 150 0) = x) => ?_) (fun (h8 : ¬ ¬ (I 150 0) = x) => ?_)
                    · refine ex_st 5 (pc' := 29) (ls' := [(2, xi 1), (0, xr 143), (1, xi x)]) (st' := [xi ((x_up (x_up I 4 4 x) 1 4 5) 143 2), xi 1]) rfl ?_
                      rw [(x_up_far (by first | decide | omega) : (x_up (x_up I 4 4 x) 1 4 5) 143 2 = (x_up I 4 4 x) 143 2)]
                      rw [(x_up_far (by first | decide | omega) : (x_up I 4 4 x) 143 2 = I 143 2)]
                      rw [hq0]
                      refine ex_st 1 (pc' := 32) (ls' := [(2, xi 1), (0, xr 143), (1, xi x)]) (st' := []) rfl ?_
                      refine ex_st 3 (pc' := 37) (ls' := [(2, xi 1), (0, xr 143), (1, xi x)]) (st' := [xi 1, xr 150]) rfl ?_
                      refine ex_iald (j := 1) rfl (by decide) (rfl : xSH[150]? = some _) (by decide) (by decide) (by decide) ?_
                      rw [(x_up_far (by first | decide | omega) : (x_up (x_up I 4 4 x) 1 4 5) 150 1 = (x_up I 4 4 x) 150 1)]
                      rw [(x_up_far (by first | decide | omega) : (x_up I 4 4 x) 150 1 = I 150 1)]
                      refine ex_st 1 (pc' := 39) (ls' := [(2, xi 1), (0, xr 143), (1, xi x)]) (st' := [xi x, xi (I 150 1)]) rfl ?_
                      refine ex_ic rfl (by first | omega | (constructor <;> omega) | assumption) (by first | omega | (constructor <;> omega) | assumption) (fun (h9 : ¬ (I 150 1) = x) => ?_) (fun (h9 : ¬ ¬ (I 150 1) = x) => ?_)
                      · refine ex_st 5 (pc' := 29) (ls' := [(2, xi 2), (0, xr 143), (1, xi x)]) (st' := [xi ((x_up (x_up I 4 4 x) 1 4 5) 143 2), xi 2]) rfl ?_
                        rw [(x_up_far (by first | decide | omega) : (x_up (x_up I 4 4 x) 1 4 5) 143 2 = (x_up I 4 4 x) 143 2)]
                        rw [(x_up_far (by first | decide | omega) : (x_up I 4 4 x) 143 2 = I 143 2)]
                        rw [hq0]
                        refine ex_st 1 (pc' := 32) (ls' := [(2, xi 2), (0, xr 143), (1, xi x)]) (st' := []) rfl ?_
                        refine ex_st 3 (pc' := 37) (ls' := [(2, xi 2), (0, xr 143), (1, xi x)]) (st' := [xi 2, xr 150]) rfl ?_
                        refine ex_iald (j := 2) rfl (by decide) (rfl : xSH[150]? = some _) (by decide) (by decide) (by decide) ?_
                        rw [(x_up_far (by first | decide | omega) : (x_up (x_up I 4 4 x) 1 4 5) 150 2 = (x_up I 4 4 x) 150 2)]
                        rw [(x_up_far (by first | decide | omega) : (x_up I 4 4 x) 150 2 = I 150 2)]
                        refine ex_st 1 (pc' := 39) (ls' := [(2, xi 2), (0, xr 143), (1, xi x)]) (st' := [xi x, xi (I 150 2)]) rfl ?_
                        refine ex_ic rfl (by first | omega | (constructor <;> omega) | assumption) (by first | omega | (constructor <;> omega) | assumption) (fun (h10 : ¬ (I 150 2) = x) => ?_) (fun (h10 : ¬ ¬ (I 150 2) = x) => ?_)
                        · refine ex_st 5 (pc' := 29) (ls' := [(2, xi 3), (0, xr 143), (1, xi x)]) (st' := [xi ((x_up (x_up I 4 4 x) 1 4 5) 143 2), xi 3]) rfl ?_
                          rw [(x_up_far (by first | decide | omega) : (x_up (x_up I 4 4 x) 1 4 5) 143 2 = (x_up I 4 4 x) 143 2)]
                          rw [(x_up_far (by first | decide | omega) : (x_up I 4 4 x) 143 2 = I 143 2)]
                          rw [hq0]
                          refine ex_st 1 (pc' := 32) (ls' := [(2, xi 3), (0, xr 143), (1, xi x)]) (st' := []) rfl ?_
                          refine ex_st 3 (pc' := 37) (ls' := [(2, xi 3), (0, xr 143), (1, xi x)]) (st' := [xi 3, xr 150]) rfl ?_
                          refine ex_iald (j := 3) rfl (by decide) (rfl : xSH[150]? = some _) (by decide) (by decide) (by decide) ?_
                          rw [(x_up_far (by first | decide | omega) : (x_up (x_up I 4 4 x) 1 4 5) 150 3 = (x_up I 4 4 x) 150 3)]
                          rw [(x_up_far (by first | decide | omega) : (x_up I 4 4 x) 150 3 = I 150 3)]
                          refine ex_st 1 (pc' := 39) (ls' := [(2, xi 3), (0, xr 143), (1, xi x)]) (st' := [xi x, xi (I 150 3)]) rfl ?_
                          refine ex_ic rfl (by first | omega | (constructor <;> omega) | assumption) (by first | omega | (constructor <;> omega) | assumption) (fun (h11 : ¬ (I 150 3) = x) => ?_) (fun (h11 : ¬ ¬ (I 150 3) = x) => ?_)
                          · refine ex_st 5 (pc' := 29) (ls' := [(2, xi 4), (0, xr 143), (1, xi x)]) (st' := [xi ((x_up (x_up I 4 4 x) 1 4 5) 143 2), xi 4]) rfl ?_
                            rw [(x_up_far (by first | decide | omega) : (x_up (x_up I 4 4 x) 1 4 5) 143 2 = (x_up I 4 4 x) 143 2)]
                            rw [(x_up_far (by first | decide | omega) : (x_up I 4 4 x) 143 2 = I 143 2)]
                            rw [hq0]
                            refine ex_st 1 (pc' := 51) (ls' := [(2, xi 4), (0, xr 143), (1, xi x)]) (st' := []) rfl ?_
                            refine ex_st 4 (pc' := 59) (ls' := [(2, xi 4), (0, xr 143), (1, xi x)]) (st' := [xi ((x_up (x_up I 4 4 x) 1 4 5) 143 2), xr 150]) rfl ?_
                            rw [(x_up_far (by first | decide | omega) : (x_up (x_up I 4 4 x) 1 4 5) 143 2 = (x_up I 4 4 x) 143 2)]
                            rw [(x_up_far (by first | decide | omega) : (x_up I 4 4 x) 143 2 = I 143 2)]
                            rw [hq0]
                            refine ex_st 1 (pc' := 60) (ls' := [(2, xi 4), (0, xr 143), (1, xi x)]) (st' := [xi x, xi 4, xr 150]) rfl ?_
                            refine ex_iast (j := 4) rfl (by decide) (rfl : xSH[150]? = some _) (by decide) (by decide) (by decide) ?_
                            refine ex_st 3 (pc' := 66) (ls' := [(2, xi 4), (0, xr 143), (1, xi x)]) (st' := [xi ((x_up (x_up (x_up I 4 4 x) 1 4 5) 150 4 x) 143 2), xr 143]) rfl ?_
                            rw [(x_up_far (by first | decide | omega) : (x_up (x_up (x_up I 4 4 x) 1 4 5) 150 4 x) 143 2 = (x_up (x_up I 4 4 x) 1 4 5) 143 2)]
                            rw [(x_up_far (by first | decide | omega) : (x_up (x_up I 4 4 x) 1 4 5) 143 2 = (x_up I 4 4 x) 143 2)]
                            rw [(x_up_far (by first | decide | omega) : (x_up I 4 4 x) 143 2 = I 143 2)]
                            rw [hq0]
                            refine ex_st 2 (pc' := 68) (ls' := [(2, xi 4), (0, xr 143), (1, xi x)]) (st' := [xi 5, xr 143]) rfl ?_
                            refine ex_pfi rfl (by decide) (rfl : xSH[143]? = some _) (by decide) rfl (by decide) (fun h => by cases h) ?_
                            refine ex_st 2 (pc' := 75) (ls' := [(2, xi 4), (0, xr 143), (1, xi x)]) (st' := [xi ((x_up (x_up (x_up (x_up I 4 4 x) 1 4 5) 150 4 x) 143 2 5) 143 2)]) rfl ?_
                            rw [x_up_at (x_up (x_up (x_up I 4 4 x) 1 4 5) 150 4 x) 143 2 5]
                            refine ex_reti rfl rfl ?_
                            refine ⟨x_req (by first | rfl | omega), ?_⟩
                            have hno : ∀ y : Nat, y < 4 → I 150 y ≠ x := by
                              intro y hy
                              have h4 := g4 y (by omega)
                              rcases (show y = 0 ∨ y = 1 ∨ y = 2 ∨ y = 3 by omega) with rfl | rfl | rfl | rfl <;> omega
                            refine ⟨_, _, rfl, ?_⟩
                            generalize hM : (x_up (x_up (x_up (x_up I 4 4 x) 1 4 5) 150 4 x) 143 2 5) = I2
                            have hF : ∀ k j, ¬ ((k = 143 ∧ j = 2) ∨ (k = 150 ∧ j = 4) ∨ (k = 1 ∧ j = 4) ∨ (k = 4 ∧ j = 4)) → I2 k j = I k j := by intro k j hk; rw [← hM]; (repeat rw [x_up_far (by omega)])
                            have hw0 : I2 143 2 = 5 := by rw [← hM]; (repeat (first | rw [x_up_far (by omega)] | rw [x_up_at2 (by omega) (by omega)]))
                            have hw1 : I2 150 4 = x := by rw [← hM]; (repeat (first | rw [x_up_far (by omega)] | rw [x_up_at2 (by omega) (by omega)]))
                            have hw2 : I2 1 4 = 5 := by rw [← hM]; (repeat (first | rw [x_up_far (by omega)] | rw [x_up_at2 (by omega) (by omega)]))
                            have hw3 : I2 4 4 = x := by rw [← hM]; (repeat (first | rw [x_up_far (by omega)] | rw [x_up_at2 (by omega) (by omega)]))
                            clear hM
                            have hI2 : RIw I2 := by
                              obtain ⟨gs, go, ga, gb, gr, gd, gg, ge, gp, gk⟩ := id hI
                              exact ⟨gs.fr ⟨by (repeat rw [hF _ _ (by omega)]); try rfl, by (repeat rw [hF _ _ (by omega)]); try rfl, by (repeat rw [hF _ _ (by omega)]); try rfl, by (repeat rw [hF _ _ (by omega)]); try rfl, by (repeat rw [hF _ _ (by omega)]); try rfl, by (repeat rw [hF _ _ (by omega)]); try rfl, by (repeat rw [hF _ _ (by omega)]); try rfl, by (repeat rw [hF _ _ (by omega)]); try rfl, by (repeat rw [hF _ _ (by omega)]); try rfl⟩, go.fr (by intros; (repeat rw [hF _ _ (by omega)]); try rfl) (by intros; (repeat rw [hF _ _ (by omega)]); try rfl), ga.fr (by intros; (repeat rw [hF _ _ (by omega)]); try rfl) (by (repeat rw [hF _ _ (by omega)]); try rfl), gb.fr (by intros; (repeat rw [hF _ _ (by omega)]); try rfl) (by intros; (repeat rw [hF _ _ (by omega)]); try rfl), gr.fr (by intros; (repeat rw [hF _ _ (by omega)]); try rfl) (by intros; (repeat rw [hF _ _ (by omega)]); try rfl), gd.fr (by intros; (repeat rw [hF _ _ (by omega)]); try rfl) (by intros; (repeat rw [hF _ _ (by omega)]); try rfl) (by (repeat rw [hF _ _ (by omega)]); try rfl), gg.fr ⟨by (repeat rw [hF _ _ (by omega)]); try rfl, by (repeat rw [hF _ _ (by omega)]); try rfl⟩ (by intros; (repeat rw [hF _ _ (by omega)]); try rfl) (by intros; (repeat rw [hF _ _ (by omega)]); try rfl), ge.fr ⟨by (repeat rw [hF _ _ (by omega)]); try rfl, by (repeat rw [hF _ _ (by omega)]); try rfl, by (repeat rw [hF _ _ (by omega)]); try rfl⟩ (by intros; (repeat rw [hF _ _ (by omega)]); try rfl) (by intros; (repeat rw [hF _ _ (by omega)]); try rfl), gp.fr ⟨by (repeat rw [hF _ _ (by omega)]); try rfl, by (repeat rw [hF _ _ (by omega)]); try rfl, by (repeat rw [hF _ _ (by omega)]); try rfl⟩ (by intros; (repeat rw [hF _ _ (by omega)]); try rfl) (by intros; (repeat rw [hF _ _ (by omega)]); try rfl), gk.fr ⟨by (repeat rw [hF _ _ (by omega)]); try rfl, by (repeat rw [hF _ _ (by omega)]); try rfl, by (repeat rw [hF _ _ (by omega)]); try rfl⟩ (by intros; (repeat rw [hF _ _ (by omega)]); try rfl) (by intros; (repeat rw [hF _ _ (by omega)]); try rfl)⟩
                            refine ⟨⟨hNs.fr ⟨by (repeat rw [hF _ _ (by omega)]); try rfl, by (repeat rw [hF _ _ (by omega)]); try rfl, by (repeat rw [hF _ _ (by omega)]); try rfl, by (repeat rw [hF _ _ (by omega)]); try rfl, by (repeat rw [hF _ _ (by omega)]); try rfl, by (repeat rw [hF _ _ (by omega)]); try rfl, by (repeat rw [hF _ _ (by omega)]); try rfl, by (repeat rw [hF _ _ (by omega)]); try rfl, by (repeat rw [hF _ _ (by omega)]); try rfl⟩, hNo.fr (by intros; (repeat rw [hF _ _ (by omega)]); try rfl) (by intros; (repeat rw [hF _ _ (by omega)]); try rfl), hNa.fr (by intros; (repeat rw [hF _ _ (by omega)]); try rfl) (by (repeat rw [hF _ _ (by omega)]); try rfl), hNb.fr (by intros; (repeat rw [hF _ _ (by omega)]); try rfl) (by intros; (repeat rw [hF _ _ (by omega)]); try rfl), hNr.fr (by intros; (repeat rw [hF _ _ (by omega)]); try rfl) (by intros; (repeat rw [hF _ _ (by omega)]); try rfl), hNd.fr (by intros; (repeat rw [hF _ _ (by omega)]); try rfl) (by intros; (repeat rw [hF _ _ (by omega)]); try rfl) (by (repeat rw [hF _ _ (by omega)]); try rfl), ?_, hNe.fr ⟨by (repeat rw [hF _ _ (by omega)]); try rfl, by (repeat rw [hF _ _ (by omega)]); try rfl, by (repeat rw [hF _ _ (by omega)]); try rfl⟩ (by intros; (repeat rw [hF _ _ (by omega)]); try rfl) (by intros; (repeat rw [hF _ _ (by omega)]); try rfl), hNp.fr ⟨by (repeat rw [hF _ _ (by omega)]); try rfl, by (repeat rw [hF _ _ (by omega)]); try rfl, by (repeat rw [hF _ _ (by omega)]); try rfl⟩ (by intros; (repeat rw [hF _ _ (by omega)]); try rfl) (by intros; (repeat rw [hF _ _ (by omega)]); try rfl), hNk.fr ⟨by (repeat rw [hF _ _ (by omega)]); try rfl, by (repeat rw [hF _ _ (by omega)]); try rfl, by (repeat rw [hF _ _ (by omega)]); try rfl⟩ (by intros; (repeat rw [hF _ _ (by omega)]); try rfl) (by intros; (repeat rw [hF _ _ (by omega)]); try rfl)⟩, hI2, hT.fr ⟨by (repeat rw [hF _ _ (by omega)]); try rfl, by (repeat rw [hF _ _ (by omega)]); try rfl⟩ (by intros; (repeat rw [hF _ _ (by omega)]); try rfl) (by intros; (repeat rw [hF _ _ (by omega)]); try rfl) (by intros; (repeat rw [hF _ _ (by omega)]); try rfl), hX.fr ⟨by (repeat rw [hF _ _ (by omega)]); try rfl, by (repeat rw [hF _ _ (by omega)]); try rfl⟩ (by intros; (repeat rw [hF _ _ (by omega)]); try rfl), hC.fr ⟨by (repeat rw [hF _ _ (by omega)]); try rfl, by (repeat rw [hF _ _ (by omega)]); try rfl⟩ (by intros; (repeat rw [hF _ _ (by omega)]); try rfl), hH.fr ⟨by (repeat rw [hF _ _ (by omega)]); try rfl, by (repeat rw [hF _ _ (by omega)]); try rfl, by (repeat rw [hF _ _ (by omega)]); try rfl⟩ (by intros; (repeat rw [hF _ _ (by omega)]); try rfl) (by intros; (repeat rw [hF _ _ (by omega)]); try rfl), hQ.fr (by intros; (repeat rw [hF _ _ (by omega)]); try rfl) (by intros; (repeat rw [hF _ _ (by omega)]); try rfl) (by intros; (repeat rw [hF _ _ (by omega)]); try rfl) (by intros; (repeat rw [hF _ _ (by omega)]); try rfl)⟩
                            · refine ⟨by (repeat (first | rw [hw0] | rw [hw1] | rw [hw2] | rw [hw3] | rw [hF _ _ (by omega)])), by (repeat (first | rw [hw0] | rw [hw1] | rw [hw2] | rw [hw3] | rw [hF _ _ (by omega)])); omega, by (repeat (first | rw [hw0] | rw [hw1] | rw [hw2] | rw [hw3] | rw [hF _ _ (by omega)])); omega, fun y hy => ?_, fun y hy => ?_, fun y z hyz hz => ?_⟩
                              · by_cases e : y = 4
                                · subst e; (repeat (first | rw [hw0] | rw [hw1] | rw [hw2] | rw [hw3] | rw [hF _ _ (by omega)]))
                                · (repeat (first | rw [hw0] | rw [hw1] | rw [hw2] | rw [hw3] | rw [hF _ _ (by omega)])); exact g4 y hy
                              · rw [hw0] at hy; by_cases e : y = 4
                                · subst e; (repeat (first | rw [hw0] | rw [hw1] | rw [hw2] | rw [hw3] | rw [hF _ _ (by omega)])); omega
                                · have h := g5 y (by omega); (repeat (first | rw [hw0] | rw [hw1] | rw [hw2] | rw [hw3] | rw [hF _ _ (by omega)])); exact h
                              · rw [hw0] at hz; by_cases e : z = 4
                                · subst e; have h := hno y (by omega); (repeat (first | rw [hw0] | rw [hw1] | rw [hw2] | rw [hw3] | rw [hF _ _ (by omega)])); exact h
                                · have h := g6 y z hyz (by omega); (repeat (first | rw [hw0] | rw [hw1] | rw [hw2] | rw [hw3] | rw [hF _ _ (by omega)])); exact h
                          · exfalso; omega
                        · exfalso; omega
                      · exfalso; omega
                    · exfalso; omega
                  · exfalso; omega
                · exfalso; omega
              · refine ex_st 1 (pc' := 21) (ls' := [(2, xi 3), (0, xr 1), (1, xi x)]) (st' := [xi 0]) rfl ?_
                refine ex_retz rfl (Or.inl rfl) rfl ?_
                refine ex_st 1 (pc' := 45) (ls' := [(0, xr 0), (1, xi x)]) (st' := []) rfl ?_
                refine ex_st 1 (pc' := 47) (ls' := [(0, xr 0), (1, xi x)]) (st' := [xi (-3)]) rfl ?_
                refine ex_reti rfl rfl ?_
                refine x_CQ.of (M := xM_m_put) rfl (Nat.le_of_ble_eq_true rfl) ?_
                refine ex_st 2 (pc' := 2) (ls' := [(0, xr 143), (1, xi x)]) (st' := [xi (-1), xi x]) rfl ?_
                refine ex_ic rfl (by first | omega | (constructor <;> omega) | assumption) (by decide) (fun (h12 : ¬ x = (-1)) => ?_) (fun (h12 : ¬ ¬ x = (-1)) => ?_)
                · refine ex_st 2 (pc' := 14) (ls' := [(0, xr 143), (1, xi x)]) (st' := [xi x, xr 143]) rfl ?_
                  refine ex_call (ct_m_isThing (by first | omega | (constructor <;> omega) | assumption)) (by decide) rfl ⟨rfl, rfl, rfl⟩ ⟨Nat.le_of_ble_eq_true rfl, rfl, rfl⟩ (Nat.le_of_ble_eq_true rfl) rfl ?_
                  refine ex_bne rfl (fun h13 => ?_) (fun h13 => ?_)
                  · refine ex_st 5 (pc' := 29) (ls' := [(2, xi 0), (0, xr 143), (1, xi x)]) (st' := [xi (I 143 2), xi 0]) rfl ?_
                    rw [hq0]
                    refine ex_st 1 (pc' := 32) (ls' := [(2, xi 0), (0, xr 143), (1, xi x)]) (st' := []) rfl ?_
                    refine ex_st 3 (pc' := 37) (ls' := [(2, xi 0), (0, xr 143), (1, xi x)]) (st' := [xi 0, xr 150]) rfl ?_
                    refine ex_iald (j := 0) rfl (by decide) (rfl : xSH[150]? = some _) (by decide) (by decide) (by decide) ?_
                    refine ex_st 1 (pc' := 39) (ls' := [(2, xi 0), (0, xr 143), (1, xi x)]) (st' := [xi x, xi (I 150 0)]) rfl ?_
                    refine ex_ic rfl (by first | omega | (constructor <;> omega) | assumption) (by first | omega | (constructor <;> omega) | assumption) (fun (h14 : ¬ (I 150 0) = x) => ?_) (fun (h14 : ¬ ¬ (I 150 0) = x) => ?_)
                    · refine ex_st 5 (pc' := 29) (ls' := [(2, xi 1), (0, xr 143), (1, xi x)]) (st' := [xi (I 143 2), xi 1]) rfl ?_
                      rw [hq0]
                      refine ex_st 1 (pc' := 32) (ls' := [(2, xi 1), (0, xr 143), (1, xi x)]) (st' := []) rfl ?_
                      refine ex_st 3 (pc' := 37) (ls' := [(2, xi 1), (0, xr 143), (1, xi x)]) (st' := [xi 1, xr 150]) rfl ?_
                      refine ex_iald (j := 1) rfl (by decide) (rfl : xSH[150]? = some _) (by decide) (by decide) (by decide) ?_
                      refine ex_st 1 (pc' := 39) (ls' := [(2, xi 1), (0, xr 143), (1, xi x)]) (st' := [xi x, xi (I 150 1)]) rfl ?_
                      refine ex_ic rfl (by first | omega | (constructor <;> omega) | assumption) (by first | omega | (constructor <;> omega) | assumption) (fun (h15 : ¬ (I 150 1) = x) => ?_) (fun (h15 : ¬ ¬ (I 150 1) = x) => ?_)
                      · refine ex_st 5 (pc' := 29) (ls' := [(2, xi 2), (0, xr 143), (1, xi x)]) (st' := [xi (I 143 2), xi 2]) rfl ?_
                        rw [hq0]
                        refine ex_st 1 (pc' := 32) (ls' := [(2, xi 2), (0, xr 143), (1, xi x)]) (st' := []) rfl ?_
                        refine ex_st 3 (pc' := 37) (ls' := [(2, xi 2), (0, xr 143), (1, xi x)]) (st' := [xi 2, xr 150]) rfl ?_
                        refine ex_iald (j := 2) rfl (by decide) (rfl : xSH[150]? = some _) (by decide) (by decide) (by decide) ?_
                        refine ex_st 1 (pc' := 39) (ls' := [(2, xi 2), (0, xr 143), (1, xi x)]) (st' := [xi x, xi (I 150 2)]) rfl ?_
                        refine ex_ic rfl (by first | omega | (constructor <;> omega) | assumption) (by first | omega | (constructor <;> omega) | assumption) (fun (h16 : ¬ (I 150 2) = x) => ?_) (fun (h16 : ¬ ¬ (I 150 2) = x) => ?_)
                        · refine ex_st 5 (pc' := 29) (ls' := [(2, xi 3), (0, xr 143), (1, xi x)]) (st' := [xi (I 143 2), xi 3]) rfl ?_
                          rw [hq0]
                          refine ex_st 1 (pc' := 32) (ls' := [(2, xi 3), (0, xr 143), (1, xi x)]) (st' := []) rfl ?_
                          refine ex_st 3 (pc' := 37) (ls' := [(2, xi 3), (0, xr 143), (1, xi x)]) (st' := [xi 3, xr 150]) rfl ?_
                          refine ex_iald (j := 3) rfl (by decide) (rfl : xSH[150]? = some _) (by decide) (by decide) (by decide) ?_
                          refine ex_st 1 (pc' := 39) (ls' := [(2, xi 3), (0, xr 143), (1, xi x)]) (st' := [xi x, xi (I 150 3)]) rfl ?_
                          refine ex_ic rfl (by first | omega | (constructor <;> omega) | assumption) (by first | omega | (constructor <;> omega) | assumption) (fun (h17 : ¬ (I 150 3) = x) => ?_) (fun (h17 : ¬ ¬ (I 150 3) = x) => ?_)
                          · exfalso; omega
                          · refine ex_st 1 (pc' := 44) (ls' := [(2, xi 3), (0, xr 143), (1, xi x)]) (st' := [xi (-3)]) rfl ?_
                            refine ex_reti rfl rfl ?_
                            exact ⟨x_req (by first | rfl | omega), _, _, rfl, hR⟩
                        · exfalso; omega
                      · exfalso; omega
                    · exfalso; omega
                  · exfalso; omega
                · exfalso; omega
            · refine ex_st 1 (pc' := 21) (ls' := [(2, xi 2), (0, xr 1), (1, xi x)]) (st' := [xi 0]) rfl ?_
              refine ex_retz rfl (Or.inl rfl) rfl ?_
              refine ex_st 1 (pc' := 45) (ls' := [(0, xr 0), (1, xi x)]) (st' := []) rfl ?_
              refine ex_st 1 (pc' := 47) (ls' := [(0, xr 0), (1, xi x)]) (st' := [xi (-3)]) rfl ?_
              refine ex_reti rfl rfl ?_
              refine x_CQ.of (M := xM_m_put) rfl (Nat.le_of_ble_eq_true rfl) ?_
              refine ex_st 2 (pc' := 2) (ls' := [(0, xr 143), (1, xi x)]) (st' := [xi (-1), xi x]) rfl ?_
              refine ex_ic rfl (by first | omega | (constructor <;> omega) | assumption) (by decide) (fun (h18 : ¬ x = (-1)) => ?_) (fun (h18 : ¬ ¬ x = (-1)) => ?_)
              · refine ex_st 2 (pc' := 14) (ls' := [(0, xr 143), (1, xi x)]) (st' := [xi x, xr 143]) rfl ?_
                refine ex_call (ct_m_isThing (by first | omega | (constructor <;> omega) | assumption)) (by decide) rfl ⟨rfl, rfl, rfl⟩ ⟨Nat.le_of_ble_eq_true rfl, rfl, rfl⟩ (Nat.le_of_ble_eq_true rfl) rfl ?_
                refine ex_bne rfl (fun h19 => ?_) (fun h19 => ?_)
                · refine ex_st 5 (pc' := 29) (ls' := [(2, xi 0), (0, xr 143), (1, xi x)]) (st' := [xi (I 143 2), xi 0]) rfl ?_
                  rw [hq0]
                  refine ex_st 1 (pc' := 32) (ls' := [(2, xi 0), (0, xr 143), (1, xi x)]) (st' := []) rfl ?_
                  refine ex_st 3 (pc' := 37) (ls' := [(2, xi 0), (0, xr 143), (1, xi x)]) (st' := [xi 0, xr 150]) rfl ?_
                  refine ex_iald (j := 0) rfl (by decide) (rfl : xSH[150]? = some _) (by decide) (by decide) (by decide) ?_
                  refine ex_st 1 (pc' := 39) (ls' := [(2, xi 0), (0, xr 143), (1, xi x)]) (st' := [xi x, xi (I 150 0)]) rfl ?_
                  refine ex_ic rfl (by first | omega | (constructor <;> omega) | assumption) (by first | omega | (constructor <;> omega) | assumption) (fun (h20 : ¬ (I 150 0) = x) => ?_) (fun (h20 : ¬ ¬ (I 150 0) = x) => ?_)
                  · refine ex_st 5 (pc' := 29) (ls' := [(2, xi 1), (0, xr 143), (1, xi x)]) (st' := [xi (I 143 2), xi 1]) rfl ?_
                    rw [hq0]
                    refine ex_st 1 (pc' := 32) (ls' := [(2, xi 1), (0, xr 143), (1, xi x)]) (st' := []) rfl ?_
                    refine ex_st 3 (pc' := 37) (ls' := [(2, xi 1), (0, xr 143), (1, xi x)]) (st' := [xi 1, xr 150]) rfl ?_
                    refine ex_iald (j := 1) rfl (by decide) (rfl : xSH[150]? = some _) (by decide) (by decide) (by decide) ?_
                    refine ex_st 1 (pc' := 39) (ls' := [(2, xi 1), (0, xr 143), (1, xi x)]) (st' := [xi x, xi (I 150 1)]) rfl ?_
                    refine ex_ic rfl (by first | omega | (constructor <;> omega) | assumption) (by first | omega | (constructor <;> omega) | assumption) (fun (h21 : ¬ (I 150 1) = x) => ?_) (fun (h21 : ¬ ¬ (I 150 1) = x) => ?_)
                    · refine ex_st 5 (pc' := 29) (ls' := [(2, xi 2), (0, xr 143), (1, xi x)]) (st' := [xi (I 143 2), xi 2]) rfl ?_
                      rw [hq0]
                      refine ex_st 1 (pc' := 32) (ls' := [(2, xi 2), (0, xr 143), (1, xi x)]) (st' := []) rfl ?_
                      refine ex_st 3 (pc' := 37) (ls' := [(2, xi 2), (0, xr 143), (1, xi x)]) (st' := [xi 2, xr 150]) rfl ?_
                      refine ex_iald (j := 2) rfl (by decide) (rfl : xSH[150]? = some _) (by decide) (by decide) (by decide) ?_
                      refine ex_st 1 (pc' := 39) (ls' := [(2, xi 2), (0, xr 143), (1, xi x)]) (st' := [xi x, xi (I 150 2)]) rfl ?_
                      refine ex_ic rfl (by first | omega | (constructor <;> omega) | assumption) (by first | omega | (constructor <;> omega) | assumption) (fun (h22 : ¬ (I 150 2) = x) => ?_) (fun (h22 : ¬ ¬ (I 150 2) = x) => ?_)
                      · exfalso; omega
                      · refine ex_st 1 (pc' := 44) (ls' := [(2, xi 2), (0, xr 143), (1, xi x)]) (st' := [xi (-3)]) rfl ?_
                        refine ex_reti rfl rfl ?_
                        exact ⟨x_req (by first | rfl | omega), _, _, rfl, hR⟩
                    · exfalso; omega
                  · exfalso; omega
                · exfalso; omega
              · exfalso; omega
          · refine ex_st 1 (pc' := 21) (ls' := [(2, xi 1), (0, xr 1), (1, xi x)]) (st' := [xi 0]) rfl ?_
            refine ex_retz rfl (Or.inl rfl) rfl ?_
            refine ex_st 1 (pc' := 45) (ls' := [(0, xr 0), (1, xi x)]) (st' := []) rfl ?_
            refine ex_st 1 (pc' := 47) (ls' := [(0, xr 0), (1, xi x)]) (st' := [xi (-3)]) rfl ?_
            refine ex_reti rfl rfl ?_
            refine x_CQ.of (M := xM_m_put) rfl (Nat.le_of_ble_eq_true rfl) ?_
            refine ex_st 2 (pc' := 2) (ls' := [(0, xr 143), (1, xi x)]) (st' := [xi (-1), xi x]) rfl ?_
            refine ex_ic rfl (by first | omega | (constructor <;> omega) | assumption) (by decide) (fun (h23 : ¬ x = (-1)) => ?_) (fun (h23 : ¬ ¬ x = (-1)) => ?_)
            · refine ex_st 2 (pc' := 14) (ls' := [(0, xr 143), (1, xi x)]) (st' := [xi x, xr 143]) rfl ?_
              refine ex_call (ct_m_isThing (by first | omega | (constructor <;> omega) | assumption)) (by decide) rfl ⟨rfl, rfl, rfl⟩ ⟨Nat.le_of_ble_eq_true rfl, rfl, rfl⟩ (Nat.le_of_ble_eq_true rfl) rfl ?_
              refine ex_bne rfl (fun h24 => ?_) (fun h24 => ?_)
              · refine ex_st 5 (pc' := 29) (ls' := [(2, xi 0), (0, xr 143), (1, xi x)]) (st' := [xi (I 143 2), xi 0]) rfl ?_
                rw [hq0]
                refine ex_st 1 (pc' := 32) (ls' := [(2, xi 0), (0, xr 143), (1, xi x)]) (st' := []) rfl ?_
                refine ex_st 3 (pc' := 37) (ls' := [(2, xi 0), (0, xr 143), (1, xi x)]) (st' := [xi 0, xr 150]) rfl ?_
                refine ex_iald (j := 0) rfl (by decide) (rfl : xSH[150]? = some _) (by decide) (by decide) (by decide) ?_
                refine ex_st 1 (pc' := 39) (ls' := [(2, xi 0), (0, xr 143), (1, xi x)]) (st' := [xi x, xi (I 150 0)]) rfl ?_
                refine ex_ic rfl (by first | omega | (constructor <;> omega) | assumption) (by first | omega | (constructor <;> omega) | assumption) (fun (h25 : ¬ (I 150 0) = x) => ?_) (fun (h25 : ¬ ¬ (I 150 0) = x) => ?_)
                · refine ex_st 5 (pc' := 29) (ls' := [(2, xi 1), (0, xr 143), (1, xi x)]) (st' := [xi (I 143 2), xi 1]) rfl ?_
                  rw [hq0]
                  refine ex_st 1 (pc' := 32) (ls' := [(2, xi 1), (0, xr 143), (1, xi x)]) (st' := []) rfl ?_
                  refine ex_st 3 (pc' := 37) (ls' := [(2, xi 1), (0, xr 143), (1, xi x)]) (st' := [xi 1, xr 150]) rfl ?_
                  refine ex_iald (j := 1) rfl (by decide) (rfl : xSH[150]? = some _) (by decide) (by decide) (by decide) ?_
                  refine ex_st 1 (pc' := 39) (ls' := [(2, xi 1), (0, xr 143), (1, xi x)]) (st' := [xi x, xi (I 150 1)]) rfl ?_
                  refine ex_ic rfl (by first | omega | (constructor <;> omega) | assumption) (by first | omega | (constructor <;> omega) | assumption) (fun (h26 : ¬ (I 150 1) = x) => ?_) (fun (h26 : ¬ ¬ (I 150 1) = x) => ?_)
                  · exfalso; omega
                  · refine ex_st 1 (pc' := 44) (ls' := [(2, xi 1), (0, xr 143), (1, xi x)]) (st' := [xi (-3)]) rfl ?_
                    refine ex_reti rfl rfl ?_
                    exact ⟨x_req (by first | rfl | omega), _, _, rfl, hR⟩
                · exfalso; omega
              · exfalso; omega
            · exfalso; omega
        · refine ex_st 1 (pc' := 21) (ls' := [(2, xi 0), (0, xr 1), (1, xi x)]) (st' := [xi 0]) rfl ?_
          refine ex_retz rfl (Or.inl rfl) rfl ?_
          refine ex_st 1 (pc' := 45) (ls' := [(0, xr 0), (1, xi x)]) (st' := []) rfl ?_
          refine ex_st 1 (pc' := 47) (ls' := [(0, xr 0), (1, xi x)]) (st' := [xi (-3)]) rfl ?_
          refine ex_reti rfl rfl ?_
          refine x_CQ.of (M := xM_m_put) rfl (Nat.le_of_ble_eq_true rfl) ?_
          refine ex_st 2 (pc' := 2) (ls' := [(0, xr 143), (1, xi x)]) (st' := [xi (-1), xi x]) rfl ?_
          refine ex_ic rfl (by first | omega | (constructor <;> omega) | assumption) (by decide) (fun (h27 : ¬ x = (-1)) => ?_) (fun (h27 : ¬ ¬ x = (-1)) => ?_)
          · refine ex_st 2 (pc' := 14) (ls' := [(0, xr 143), (1, xi x)]) (st' := [xi x, xr 143]) rfl ?_
            refine ex_call (ct_m_isThing (by first | omega | (constructor <;> omega) | assumption)) (by decide) rfl ⟨rfl, rfl, rfl⟩ ⟨Nat.le_of_ble_eq_true rfl, rfl, rfl⟩ (Nat.le_of_ble_eq_true rfl) rfl ?_
            refine ex_bne rfl (fun h28 => ?_) (fun h28 => ?_)
            · refine ex_st 5 (pc' := 29) (ls' := [(2, xi 0), (0, xr 143), (1, xi x)]) (st' := [xi (I 143 2), xi 0]) rfl ?_
              rw [hq0]
              refine ex_st 1 (pc' := 32) (ls' := [(2, xi 0), (0, xr 143), (1, xi x)]) (st' := []) rfl ?_
              refine ex_st 3 (pc' := 37) (ls' := [(2, xi 0), (0, xr 143), (1, xi x)]) (st' := [xi 0, xr 150]) rfl ?_
              refine ex_iald (j := 0) rfl (by decide) (rfl : xSH[150]? = some _) (by decide) (by decide) (by decide) ?_
              refine ex_st 1 (pc' := 39) (ls' := [(2, xi 0), (0, xr 143), (1, xi x)]) (st' := [xi x, xi (I 150 0)]) rfl ?_
              refine ex_ic rfl (by first | omega | (constructor <;> omega) | assumption) (by first | omega | (constructor <;> omega) | assumption) (fun (h29 : ¬ (I 150 0) = x) => ?_) (fun (h29 : ¬ ¬ (I 150 0) = x) => ?_)
              · exfalso; omega
              · refine ex_st 1 (pc' := 44) (ls' := [(2, xi 0), (0, xr 143), (1, xi x)]) (st' := [xi (-3)]) rfl ?_
                refine ex_reti rfl rfl ?_
                exact ⟨x_req (by first | rfl | omega), _, _, rfl, hR⟩
            · exfalso; omega
          · exfalso; omega
      · refine ex_st 1 (pc' := 23) (ls' := [(0, xr 0), (1, xi x)]) (st' := [xi (-1)]) rfl ?_
        refine ex_reti rfl rfl ?_
        refine x_CQ.of (M := xM_m_put) rfl (Nat.le_of_ble_eq_true rfl) ?_
        refine ex_st 2 (pc' := 2) (ls' := [(0, xr 143), (1, xi x)]) (st' := [xi (-1), xi x]) rfl ?_
        refine ex_ic rfl (by first | omega | (constructor <;> omega) | assumption) (by decide) (fun (h30 : ¬ x = (-1)) => ?_) (fun (h30 : ¬ ¬ x = (-1)) => ?_)
        · refine ex_st 2 (pc' := 14) (ls' := [(0, xr 143), (1, xi x)]) (st' := [xi x, xr 143]) rfl ?_
          refine ex_call (ct_m_isThing (by first | omega | (constructor <;> omega) | assumption)) (by decide) rfl ⟨rfl, rfl, rfl⟩ ⟨Nat.le_of_ble_eq_true rfl, rfl, rfl⟩ (Nat.le_of_ble_eq_true rfl) rfl ?_
          refine ex_bne rfl (fun h31 => ?_) (fun h31 => ?_)
          · exfalso; omega
          · refine ex_st 1 (pc' := 21) (ls' := [(0, xr 143), (1, xi x)]) (st' := [xi (-1)]) rfl ?_
            refine ex_reti rfl rfl ?_
            exact ⟨x_req (by first | rfl | omega), _, _, rfl, hR⟩
        · exfalso; omega
    · refine ex_st 3 (pc' := 10) (ls' := [(0, xr 0), (1, xi x)]) (st' := [xi 0, xr 1]) rfl ?_
      refine ex_pfi rfl (by decide) (rfl : xSH[1]? = some _) (by decide) rfl (by decide) (fun h => by cases h) ?_
      refine ex_st 1 (pc' := 14) (ls' := [(0, xr 0), (1, xi x)]) (st' := [xi 0]) rfl ?_
      refine ex_reti rfl rfl ?_
      refine x_CQ.of (M := xM_m_put) rfl (Nat.le_of_ble_eq_true rfl) ?_
      refine ex_st 2 (pc' := 2) (ls' := [(0, xr 143), (1, xi x)]) (st' := [xi (-1), xi x]) rfl ?_
      refine ex_ic rfl (by first | omega | (constructor <;> omega) | assumption) (by decide) (fun (h32 : ¬ x = (-1)) => ?_) (fun (h32 : ¬ ¬ x = (-1)) => ?_)
      · exfalso; omega
      · refine ex_st 2 (pc' := 7) (ls' := [(0, xr 143), (1, xi x)]) (st' := [xi 0, xr 143]) rfl ?_
        refine ex_pfi rfl (by decide) (rfl : xSH[143]? = some _) (by decide) rfl (by decide) (fun h => by cases h) ?_
        refine ex_st 1 (pc' := 11) (ls' := [(0, xr 143), (1, xi x)]) (st' := [xi 0]) rfl ?_
        refine ex_reti rfl rfl ?_
        refine ⟨x_req (by first | rfl | omega), ?_⟩
        refine ⟨_, _, rfl, ?_⟩
        generalize hM : (x_up (x_up I 1 4 0) 143 2 0) = I2
        have hF : ∀ k j, ¬ ((k = 143 ∧ j = 2) ∨ (k = 1 ∧ j = 4)) → I2 k j = I k j := by intro k j hk; rw [← hM]; (repeat rw [x_up_far (by omega)])
        have hw0 : I2 143 2 = 0 := by rw [← hM]; (repeat (first | rw [x_up_far (by omega)] | rw [x_up_at2 (by omega) (by omega)]))
        have hw1 : I2 1 4 = 0 := by rw [← hM]; (repeat (first | rw [x_up_far (by omega)] | rw [x_up_at2 (by omega) (by omega)]))
        clear hM
        have hI2 : RIw I2 := by
          obtain ⟨gs, go, ga, gb, gr, gd, gg, ge, gp, gk⟩ := id hI
          exact ⟨gs.fr ⟨by (repeat rw [hF _ _ (by omega)]); try rfl, by (repeat rw [hF _ _ (by omega)]); try rfl, by (repeat rw [hF _ _ (by omega)]); try rfl, by (repeat rw [hF _ _ (by omega)]); try rfl, by (repeat rw [hF _ _ (by omega)]); try rfl, by (repeat rw [hF _ _ (by omega)]); try rfl, by (repeat rw [hF _ _ (by omega)]); try rfl, by (repeat rw [hF _ _ (by omega)]); try rfl, by (repeat rw [hF _ _ (by omega)]); try rfl⟩, go.fr (by intros; (repeat rw [hF _ _ (by omega)]); try rfl) (by intros; (repeat rw [hF _ _ (by omega)]); try rfl), ga.fr (by intros; (repeat rw [hF _ _ (by omega)]); try rfl) (by (repeat rw [hF _ _ (by omega)]); try rfl), gb.fr (by intros; (repeat rw [hF _ _ (by omega)]); try rfl) (by intros; (repeat rw [hF _ _ (by omega)]); try rfl), gr.fr (by intros; (repeat rw [hF _ _ (by omega)]); try rfl) (by intros; (repeat rw [hF _ _ (by omega)]); try rfl), gd.fr (by intros; (repeat rw [hF _ _ (by omega)]); try rfl) (by intros; (repeat rw [hF _ _ (by omega)]); try rfl) (by (repeat rw [hF _ _ (by omega)]); try rfl), gg.fr ⟨by (repeat rw [hF _ _ (by omega)]); try rfl, by (repeat rw [hF _ _ (by omega)]); try rfl⟩ (by intros; (repeat rw [hF _ _ (by omega)]); try rfl) (by intros; (repeat rw [hF _ _ (by omega)]); try rfl), ge.fr ⟨by (repeat rw [hF _ _ (by omega)]); try rfl, by (repeat rw [hF _ _ (by omega)]); try rfl, by (repeat rw [hF _ _ (by omega)]); try rfl⟩ (by intros; (repeat rw [hF _ _ (by omega)]); try rfl) (by intros; (repeat rw [hF _ _ (by omega)]); try rfl), gp.fr ⟨by (repeat rw [hF _ _ (by omega)]); try rfl, by (repeat rw [hF _ _ (by omega)]); try rfl, by (repeat rw [hF _ _ (by omega)]); try rfl⟩ (by intros; (repeat rw [hF _ _ (by omega)]); try rfl) (by intros; (repeat rw [hF _ _ (by omega)]); try rfl), gk.fr ⟨by (repeat rw [hF _ _ (by omega)]); try rfl, by (repeat rw [hF _ _ (by omega)]); try rfl, by (repeat rw [hF _ _ (by omega)]); try rfl⟩ (by intros; (repeat rw [hF _ _ (by omega)]); try rfl) (by intros; (repeat rw [hF _ _ (by omega)]); try rfl)⟩
        refine ⟨⟨hNs.fr ⟨by (repeat rw [hF _ _ (by omega)]); try rfl, by (repeat rw [hF _ _ (by omega)]); try rfl, by (repeat rw [hF _ _ (by omega)]); try rfl, by (repeat rw [hF _ _ (by omega)]); try rfl, by (repeat rw [hF _ _ (by omega)]); try rfl, by (repeat rw [hF _ _ (by omega)]); try rfl, by (repeat rw [hF _ _ (by omega)]); try rfl, by (repeat rw [hF _ _ (by omega)]); try rfl, by (repeat rw [hF _ _ (by omega)]); try rfl⟩, hNo.fr (by intros; (repeat rw [hF _ _ (by omega)]); try rfl) (by intros; (repeat rw [hF _ _ (by omega)]); try rfl), hNa.fr (by intros; (repeat rw [hF _ _ (by omega)]); try rfl) (by (repeat rw [hF _ _ (by omega)]); try rfl), hNb.fr (by intros; (repeat rw [hF _ _ (by omega)]); try rfl) (by intros; (repeat rw [hF _ _ (by omega)]); try rfl), hNr.fr (by intros; (repeat rw [hF _ _ (by omega)]); try rfl) (by intros; (repeat rw [hF _ _ (by omega)]); try rfl), hNd.fr (by intros; (repeat rw [hF _ _ (by omega)]); try rfl) (by intros; (repeat rw [hF _ _ (by omega)]); try rfl) (by (repeat rw [hF _ _ (by omega)]); try rfl), ?_, hNe.fr ⟨by (repeat rw [hF _ _ (by omega)]); try rfl, by (repeat rw [hF _ _ (by omega)]); try rfl, by (repeat rw [hF _ _ (by omega)]); try rfl⟩ (by intros; (repeat rw [hF _ _ (by omega)]); try rfl) (by intros; (repeat rw [hF _ _ (by omega)]); try rfl), hNp.fr ⟨by (repeat rw [hF _ _ (by omega)]); try rfl, by (repeat rw [hF _ _ (by omega)]); try rfl, by (repeat rw [hF _ _ (by omega)]); try rfl⟩ (by intros; (repeat rw [hF _ _ (by omega)]); try rfl) (by intros; (repeat rw [hF _ _ (by omega)]); try rfl), hNk.fr ⟨by (repeat rw [hF _ _ (by omega)]); try rfl, by (repeat rw [hF _ _ (by omega)]); try rfl, by (repeat rw [hF _ _ (by omega)]); try rfl⟩ (by intros; (repeat rw [hF _ _ (by omega)]); try rfl) (by intros; (repeat rw [hF _ _ (by omega)]); try rfl)⟩, hI2, hT.fr ⟨by (repeat rw [hF _ _ (by omega)]); try rfl, by (repeat rw [hF _ _ (by omega)]); try rfl⟩ (by intros; (repeat rw [hF _ _ (by omega)]); try rfl) (by intros; (repeat rw [hF _ _ (by omega)]); try rfl) (by intros; (repeat rw [hF _ _ (by omega)]); try rfl), hX.fr ⟨by (repeat rw [hF _ _ (by omega)]); try rfl, by (repeat rw [hF _ _ (by omega)]); try rfl⟩ (by intros; (repeat rw [hF _ _ (by omega)]); try rfl), hC.fr ⟨by (repeat rw [hF _ _ (by omega)]); try rfl, by (repeat rw [hF _ _ (by omega)]); try rfl⟩ (by intros; (repeat rw [hF _ _ (by omega)]); try rfl), hH.fr ⟨by (repeat rw [hF _ _ (by omega)]); try rfl, by (repeat rw [hF _ _ (by omega)]); try rfl, by (repeat rw [hF _ _ (by omega)]); try rfl⟩ (by intros; (repeat rw [hF _ _ (by omega)]); try rfl) (by intros; (repeat rw [hF _ _ (by omega)]); try rfl), hQ.fr (by intros; (repeat rw [hF _ _ (by omega)]); try rfl) (by intros; (repeat rw [hF _ _ (by omega)]); try rfl) (by intros; (repeat rw [hF _ _ (by omega)]); try rfl) (by intros; (repeat rw [hF _ _ (by omega)]); try rfl)⟩
        · refine ⟨by (repeat (first | rw [hw0] | rw [hw1] | rw [hF _ _ (by omega)])), by (repeat (first | rw [hw0] | rw [hw1] | rw [hF _ _ (by omega)])); omega, by (repeat (first | rw [hw0] | rw [hw1] | rw [hF _ _ (by omega)])); omega, fun y hy => by (repeat (first | rw [hw0] | rw [hw1] | rw [hF _ _ (by omega)])); exact g4 y hy, fun y hy => ?_, fun y z hyz hz => ?_⟩ <;> (exfalso; rw [hw0] at *; omega)
  · have hq0 : I 143 2 = 5 := by omega
    have hq1 : I 1 4 = 5 := by omega
    have hpg : 0 ≤ x ∧ x ≤ 4 → x = I 4 0 ∨ x = I 4 1 ∨ x = I 4 2 ∨ x = I 4 3 ∨ x = I 4 4 := fun hx4 => by
      rw [g4 0 (by decide), g4 1 (by decide), g4 2 (by decide), g4 3 (by decide), g4 4 (by decide)]
      exact x_pig (g5 0 (by omega)) (g5 1 (by omega)) (g5 2 (by omega)) (g5 3 (by omega)) (g5 4 (by omega)) hx4 (g6 0 1 (by decide) (by omega)) (g6 0 2 (by decide) (by omega)) (g6 1 2 (by decide) (by omega)) (g6 0 3 (by decide) (by omega)) (g6 1 3 (by decide) (by omega)) (g6 2 3 (by decide) (by omega)) (g6 0 4 (by decide) (by omega)) (g6 1 4 (by decide) (by omega)) (g6 2 4 (by decide) (by omega)) (g6 3 4 (by decide) (by omega))
    have e0 := g4 0 (by decide)
    have e1 := g4 1 (by decide)
    have e2 := g4 2 (by decide)
    have e3 := g4 3 (by decide)
    have e4 := g4 4 (by decide)
    have r0 := g5 0 (by omega)
    have r1 := g5 1 (by omega)
    have r2 := g5 2 (by omega)
    have r3 := g5 3 (by omega)
    have r4 := g5 4 (by omega)
    refine x_CQ.of (M := xM_G_put) rfl (Nat.le_of_ble_eq_true rfl) ?_
    refine ex_st 2 (pc' := 2) (ls' := [(0, xr 0), (1, xi x)]) (st' := [xi (-1), xi x]) rfl ?_
    refine ex_ic rfl (by first | omega | (constructor <;> omega) | assumption) (by decide) (fun (h0 : ¬ x = (-1)) => ?_) (fun (h0 : ¬ ¬ x = (-1)) => ?_)
    · refine ex_st 1 (pc' := 16) (ls' := [(0, xr 0), (1, xi x)]) (st' := [xi x]) rfl ?_
      refine ex_call (ct_G_isThing (by first | omega | (constructor <;> omega) | assumption)) (by decide) rfl ⟨rfl, rfl, rfl⟩ ⟨Nat.le_of_ble_eq_true rfl, rfl, rfl⟩ (Nat.le_of_ble_eq_true rfl) rfl ?_
      refine ex_bne rfl (fun h1 => ?_) (fun h1 => ?_)
      · refine ex_st 3 (pc' := 29) (ls' := [(0, xr 0), (1, xi x)]) (st' := [xi x, xr 1]) rfl ?_
        refine ex_inl (M' := xM_W_putOnAgenda) (as := [xr 1, xi x]) (rest := []) (D' := 28) rfl (Nat.le_of_ble_eq_true rfl) (by decide) rfl ⟨rfl, rfl, rfl⟩ ⟨Nat.le_of_ble_eq_true rfl, rfl, rfl⟩ (Nat.le_of_ble_eq_true rfl) rfl ?_
        refine ex_st 5 (pc' := 7) (ls' := [(2, xi 0), (0, xr 1), (1, xi x)]) (st' := [xi (I 1 4), xi 0]) rfl ?_
        rw [hq1]
        refine ex_st 1 (pc' := 10) (ls' := [(2, xi 0), (0, xr 1), (1, xi x)]) (st' := []) rfl ?_
        refine ex_st 3 (pc' := 15) (ls' := [(2, xi 0), (0, xr 1), (1, xi x)]) (st' := [xi 0, xr 4]) rfl ?_
        refine ex_iald (j := 0) rfl (by decide) (rfl : xSH[4]? = some _) (by decide) (by decide) (by decide) ?_
        refine ex_st 1 (pc' := 17) (ls' := [(2, xi 0), (0, xr 1), (1, xi x)]) (st' := [xi x, xi (I 4 0)]) rfl ?_
        refine ex_ic rfl (by first | omega | (constructor <;> omega) | assumption) (by first | omega | (constructor <;> omega) | assumption) (fun (h2 : ¬ (I 4 0) = x) => ?_) (fun (h2 : ¬ ¬ (I 4 0) = x) => ?_)
        · refine ex_st 5 (pc' := 7) (ls' := [(2, xi 1), (0, xr 1), (1, xi x)]) (st' := [xi (I 1 4), xi 1]) rfl ?_
          rw [hq1]
          refine ex_st 1 (pc' := 10) (ls' := [(2, xi 1), (0, xr 1), (1, xi x)]) (st' := []) rfl ?_
          refine ex_st 3 (pc' := 15) (ls' := [(2, xi 1), (0, xr 1), (1, xi x)]) (st' := [xi 1, xr 4]) rfl ?_
          refine ex_iald (j := 1) rfl (by decide) (rfl : xSH[4]? = some _) (by decide) (by decide) (by decide) ?_
          refine ex_st 1 (pc' := 17) (ls' := [(2, xi 1), (0, xr 1), (1, xi x)]) (st' := [xi x, xi (I 4 1)]) rfl ?_
          refine ex_ic rfl (by first | omega | (constructor <;> omega) | assumption) (by first | omega | (constructor <;> omega) | assumption) (fun (h3 : ¬ (I 4 1) = x) => ?_) (fun (h3 : ¬ ¬ (I 4 1) = x) => ?_)
          · refine ex_st 5 (pc' := 7) (ls' := [(2, xi 2), (0, xr 1), (1, xi x)]) (st' := [xi (I 1 4), xi 2]) rfl ?_
            rw [hq1]
            refine ex_st 1 (pc' := 10) (ls' := [(2, xi 2), (0, xr 1), (1, xi x)]) (st' := []) rfl ?_
            refine ex_st 3 (pc' := 15) (ls' := [(2, xi 2), (0, xr 1), (1, xi x)]) (st' := [xi 2, xr 4]) rfl ?_
            refine ex_iald (j := 2) rfl (by decide) (rfl : xSH[4]? = some _) (by decide) (by decide) (by decide) ?_
            refine ex_st 1 (pc' := 17) (ls' := [(2, xi 2), (0, xr 1), (1, xi x)]) (st' := [xi x, xi (I 4 2)]) rfl ?_
            refine ex_ic rfl (by first | omega | (constructor <;> omega) | assumption) (by first | omega | (constructor <;> omega) | assumption) (fun (h4 : ¬ (I 4 2) = x) => ?_) (fun (h4 : ¬ ¬ (I 4 2) = x) => ?_)
            · refine ex_st 5 (pc' := 7) (ls' := [(2, xi 3), (0, xr 1), (1, xi x)]) (st' := [xi (I 1 4), xi 3]) rfl ?_
              rw [hq1]
              refine ex_st 1 (pc' := 10) (ls' := [(2, xi 3), (0, xr 1), (1, xi x)]) (st' := []) rfl ?_
              refine ex_st 3 (pc' := 15) (ls' := [(2, xi 3), (0, xr 1), (1, xi x)]) (st' := [xi 3, xr 4]) rfl ?_
              refine ex_iald (j := 3) rfl (by decide) (rfl : xSH[4]? = some _) (by decide) (by decide) (by decide) ?_
              refine ex_st 1 (pc' := 17) (ls' := [(2, xi 3), (0, xr 1), (1, xi x)]) (st' := [xi x, xi (I 4 3)]) rfl ?_
              refine ex_ic rfl (by first | omega | (constructor <;> omega) | assumption) (by first | omega | (constructor <;> omega) | assumption) (fun (h5 : ¬ (I 4 3) = x) => ?_) (fun (h5 : ¬ ¬ (I 4 3) = x) => ?_)
              · refine ex_st 5 (pc' := 7) (ls' := [(2, xi 4), (0, xr 1), (1, xi x)]) (st' := [xi (I 1 4), xi 4]) rfl ?_
                rw [hq1]
                refine ex_st 1 (pc' := 10) (ls' := [(2, xi 4), (0, xr 1), (1, xi x)]) (st' := []) rfl ?_
                refine ex_st 3 (pc' := 15) (ls' := [(2, xi 4), (0, xr 1), (1, xi x)]) (st' := [xi 4, xr 4]) rfl ?_
                refine ex_iald (j := 4) rfl (by decide) (rfl : xSH[4]? = some _) (by decide) (by decide) (by decide) ?_
                refine ex_st 1 (pc' := 17) (ls' := [(2, xi 4), (0, xr 1), (1, xi x)]) (st' := [xi x, xi (I 4 4)]) rfl ?_
                refine ex_ic rfl (by first | omega | (constructor <;> omega) | assumption) (by first | omega | (constructor <;> omega) | assumption) (fun (h6 : ¬ (I 4 4) = x) => ?_) (fun (h6 : ¬ ¬ (I 4 4) = x) => ?_)
                · exfalso; (first | omega | (have h8 := hpg (by omega); omega))
                · refine ex_st 1 (pc' := 21) (ls' := [(2, xi 4), (0, xr 1), (1, xi x)]) (st' := [xi 0]) rfl ?_
                  refine ex_retz rfl (Or.inl rfl) rfl ?_
                  refine ex_st 1 (pc' := 45) (ls' := [(0, xr 0), (1, xi x)]) (st' := []) rfl ?_
                  refine ex_st 1 (pc' := 47) (ls' := [(0, xr 0), (1, xi x)]) (st' := [xi (-3)]) rfl ?_
                  refine ex_reti rfl rfl ?_
                  refine x_CQ.of (M := xM_m_put) rfl (Nat.le_of_ble_eq_true rfl) ?_
                  refine ex_st 2 (pc' := 2) (ls' := [(0, xr 143), (1, xi x)]) (st' := [xi (-1), xi x]) rfl ?_
                  refine ex_ic rfl (by first | omega | (constructor <;> omega) | assumption) (by decide) (fun (h7 : ¬ x = (-1)) => ?_) (fun (h7 : ¬ ¬ x = (-1)) => ?_)
                  · refine ex_st 2 (pc' := 14) (ls' := [(0, xr 143), (1, xi x)]) (st' := [xi x, xr 143]) rfl ?_
                    refine ex_call (ct_m_isThing (by first | omega | (constructor <;> omega) | assumption)) (by decide) rfl ⟨rfl, rfl, rfl⟩ ⟨Nat.le_of_ble_eq_true rfl, rfl, rfl⟩ (Nat.le_of_ble_eq_true rfl) rfl ?_
                    refine ex_bne rfl (fun h8 => ?_) (fun h8 => ?_)
                    · refine ex_st 5 (pc' := 29) (ls' := [(2, xi 0), (0, xr 143), (1, xi x)]) (st' := [xi (I 143 2), xi 0]) rfl ?_
                      rw [hq0]
                      refine ex_st 1 (pc' := 32) (ls' := [(2, xi 0), (0, xr 143), (1, xi x)]) (st' := []) rfl ?_
                      refine ex_st 3 (pc' := 37) (ls' := [(2, xi 0), (0, xr 143), (1, xi x)]) (st' := [xi 0, xr 150]) rfl ?_
                      refine ex_iald (j := 0) rfl (by decide) (rfl : xSH[150]? = some _) (by decide) (by decide) (by decide) ?_
                      refine ex_st 1 (pc' := 39) (ls' := [(2, xi 0), (0, xr 143), (1, xi x)]) (st' := [xi x, xi (I 150 0)]) rfl ?_
                      refine ex_ic rfl (by first | omega | (constructor <;> omega) | assumption) (by first | omega | (constructor <;> omega) | assumption) (fun (h9 : ¬ (I 150 0) = x) => ?_) (fun (h9 : ¬ ¬ (I 150 0) = x) => ?_)
                      · refine ex_st 5 (pc' := 29) (ls' := [(2, xi 1), (0, xr 143), (1, xi x)]) (st' := [xi (I 143 2), xi 1]) rfl ?_
                        rw [hq0]
                        refine ex_st 1 (pc' := 32) (ls' := [(2, xi 1), (0, xr 143), (1, xi x)]) (st' := []) rfl ?_
                        refine ex_st 3 (pc' := 37) (ls' := [(2, xi 1), (0, xr 143), (1, xi x)]) (st' := [xi 1, xr 150]) rfl ?_
                        refine ex_iald (j := 1) rfl (by decide) (rfl : xSH[150]? = some _) (by decide) (by decide) (by decide) ?_
                        refine ex_st 1 (pc' := 39) (ls' := [(2, xi 1), (0, xr 143), (1, xi x)]) (st' := [xi x, xi (I 150 1)]) rfl ?_
                        refine ex_ic rfl (by first | omega | (constructor <;> omega) | assumption) (by first | omega | (constructor <;> omega) | assumption) (fun (h10 : ¬ (I 150 1) = x) => ?_) (fun (h10 : ¬ ¬ (I 150 1) = x) => ?_)
                        · refine ex_st 5 (pc' := 29) (ls' := [(2, xi 2), (0, xr 143), (1, xi x)]) (st' := [xi (I 143 2), xi 2]) rfl ?_
                          rw [hq0]
                          refine ex_st 1 (pc' := 32) (ls' := [(2, xi 2), (0, xr 143), (1, xi x)]) (st' := []) rfl ?_
                          refine ex_st 3 (pc' := 37) (ls' := [(2, xi 2), (0, xr 143), (1, xi x)]) (st' := [xi 2, xr 150]) rfl ?_
                          refine ex_iald (j := 2) rfl (by decide) (rfl : xSH[150]? = some _) (by decide) (by decide) (by decide) ?_
                          refine ex_st 1 (pc' := 39) (ls' := [(2, xi 2), (0, xr 143), (1, xi x)]) (st' := [xi x, xi (I 150 2)]) rfl ?_
                          refine ex_ic rfl (by first | omega | (constructor <;> omega) | assumption) (by first | omega | (constructor <;> omega) | assumption) (fun (h11 : ¬ (I 150 2) = x) => ?_) (fun (h11 : ¬ ¬ (I 150 2) = x) => ?_)
                          · refine ex_st 5 (pc' := 29) (ls' := [(2, xi 3), (0, xr 143), (1, xi x)]) (st' := [xi (I 143 2), xi 3]) rfl ?_
                            rw [hq0]
                            refine ex_st 1 (pc' := 32) (ls' := [(2, xi 3), (0, xr 143), (1, xi x)]) (st' := []) rfl ?_
                            refine ex_st 3 (pc' := 37) (ls' := [(2, xi 3), (0, xr 143), (1, xi x)]) (st' := [xi 3, xr 150]) rfl ?_
                            refine ex_iald (j := 3) rfl (by decide) (rfl : xSH[150]? = some _) (by decide) (by decide) (by decide) ?_
                            refine ex_st 1 (pc' := 39) (ls' := [(2, xi 3), (0, xr 143), (1, xi x)]) (st' := [xi x, xi (I 150 3)]) rfl ?_
                            refine ex_ic rfl (by first | omega | (constructor <;> omega) | assumption) (by first | omega | (constructor <;> omega) | assumption) (fun (h12 : ¬ (I 150 3) = x) => ?_) (fun (h12 : ¬ ¬ (I 150 3) = x) => ?_)
                            · refine ex_st 5 (pc' := 29) (ls' := [(2, xi 4), (0, xr 143), (1, xi x)]) (st' := [xi (I 143 2), xi 4]) rfl ?_
                              rw [hq0]
                              refine ex_st 1 (pc' := 32) (ls' := [(2, xi 4), (0, xr 143), (1, xi x)]) (st' := []) rfl ?_
                              refine ex_st 3 (pc' := 37) (ls' := [(2, xi 4), (0, xr 143), (1, xi x)]) (st' := [xi 4, xr 150]) rfl ?_
                              refine ex_iald (j := 4) rfl (by decide) (rfl : xSH[150]? = some _) (by decide) (by decide) (by decide) ?_
                              refine ex_st 1 (pc' := 39) (ls' := [(2, xi 4), (0, xr 143), (1, xi x)]) (st' := [xi x, xi (I 150 4)]) rfl ?_
                              refine ex_ic rfl (by first | omega | (constructor <;> omega) | assumption) (by first | omega | (constructor <;> omega) | assumption) (fun (h13 : ¬ (I 150 4) = x) => ?_) (fun (h13 : ¬ ¬ (I 150 4) = x) => ?_)
                              · exfalso; (first | omega | (have h8 := hpg (by omega); omega))
                              · refine ex_st 1 (pc' := 44) (ls' := [(2, xi 4), (0, xr 143), (1, xi x)]) (st' := [xi (-3)]) rfl ?_
                                refine ex_reti rfl rfl ?_
                                exact ⟨x_req (by first | rfl | omega), _, _, rfl, hR⟩
                            · exfalso; (first | omega | (have h8 := hpg (by omega); omega))
                          · exfalso; (first | omega | (have h8 := hpg (by omega); omega))
                        · exfalso; (first | omega | (have h8 := hpg (by omega); omega))
                      · exfalso; (first | omega | (have h8 := hpg (by omega); omega))
                    · exfalso; (first | omega | (have h8 := hpg (by omega); omega))
                  · exfalso; (first | omega | (have h8 := hpg (by omega); omega))
              · refine ex_st 1 (pc' := 21) (ls' := [(2, xi 3), (0, xr 1), (1, xi x)]) (st' := [xi 0]) rfl ?_
                refine ex_retz rfl (Or.inl rfl) rfl ?_
                refine ex_st 1 (pc' := 45) (ls' := [(0, xr 0), (1, xi x)]) (st' := []) rfl ?_
                refine ex_st 1 (pc' := 47) (ls' := [(0, xr 0), (1, xi x)]) (st' := [xi (-3)]) rfl ?_
                refine ex_reti rfl rfl ?_
                refine x_CQ.of (M := xM_m_put) rfl (Nat.le_of_ble_eq_true rfl) ?_
                refine ex_st 2 (pc' := 2) (ls' := [(0, xr 143), (1, xi x)]) (st' := [xi (-1), xi x]) rfl ?_
                refine ex_ic rfl (by first | omega | (constructor <;> omega) | assumption) (by decide) (fun (h14 : ¬ x = (-1)) => ?_) (fun (h14 : ¬ ¬ x = (-1)) => ?_)
                · refine ex_st 2 (pc' := 14) (ls' := [(0, xr 143), (1, xi x)]) (st' := [xi x, xr 143]) rfl ?_
                  refine ex_call (ct_m_isThing (by first | omega | (constructor <;> omega) | assumption)) (by decide) rfl ⟨rfl, rfl, rfl⟩ ⟨Nat.le_of_ble_eq_true rfl, rfl, rfl⟩ (Nat.le_of_ble_eq_true rfl) rfl ?_
                  refine ex_bne rfl (fun h15 => ?_) (fun h15 => ?_)
                  · refine ex_st 5 (pc' := 29) (ls' := [(2, xi 0), (0, xr 143), (1, xi x)]) (st' := [xi (I 143 2), xi 0]) rfl ?_
                    rw [hq0]
                    refine ex_st 1 (pc' := 32) (ls' := [(2, xi 0), (0, xr 143), (1, xi x)]) (st' := []) rfl ?_
                    refine ex_st 3 (pc' := 37) (ls' := [(2, xi 0), (0, xr 143), (1, xi x)]) (st' := [xi 0, xr 150]) rfl ?_
                    refine ex_iald (j := 0) rfl (by decide) (rfl : xSH[150]? = some _) (by decide) (by decide) (by decide) ?_
                    refine ex_st 1 (pc' := 39) (ls' := [(2, xi 0), (0, xr 143), (1, xi x)]) (st' := [xi x, xi (I 150 0)]) rfl ?_
                    refine ex_ic rfl (by first | omega | (constructor <;> omega) | assumption) (by first | omega | (constructor <;> omega) | assumption) (fun (h16 : ¬ (I 150 0) = x) => ?_) (fun (h16 : ¬ ¬ (I 150 0) = x) => ?_)
                    · refine ex_st 5 (pc' := 29) (ls' := [(2, xi 1), (0, xr 143), (1, xi x)]) (st' := [xi (I 143 2), xi 1]) rfl ?_
                      rw [hq0]
                      refine ex_st 1 (pc' := 32) (ls' := [(2, xi 1), (0, xr 143), (1, xi x)]) (st' := []) rfl ?_
                      refine ex_st 3 (pc' := 37) (ls' := [(2, xi 1), (0, xr 143), (1, xi x)]) (st' := [xi 1, xr 150]) rfl ?_
                      refine ex_iald (j := 1) rfl (by decide) (rfl : xSH[150]? = some _) (by decide) (by decide) (by decide) ?_
                      refine ex_st 1 (pc' := 39) (ls' := [(2, xi 1), (0, xr 143), (1, xi x)]) (st' := [xi x, xi (I 150 1)]) rfl ?_
                      refine ex_ic rfl (by first | omega | (constructor <;> omega) | assumption) (by first | omega | (constructor <;> omega) | assumption) (fun (h17 : ¬ (I 150 1) = x) => ?_) (fun (h17 : ¬ ¬ (I 150 1) = x) => ?_)
                      · refine ex_st 5 (pc' := 29) (ls' := [(2, xi 2), (0, xr 143), (1, xi x)]) (st' := [xi (I 143 2), xi 2]) rfl ?_
                        rw [hq0]
                        refine ex_st 1 (pc' := 32) (ls' := [(2, xi 2), (0, xr 143), (1, xi x)]) (st' := []) rfl ?_
                        refine ex_st 3 (pc' := 37) (ls' := [(2, xi 2), (0, xr 143), (1, xi x)]) (st' := [xi 2, xr 150]) rfl ?_
                        refine ex_iald (j := 2) rfl (by decide) (rfl : xSH[150]? = some _) (by decide) (by decide) (by decide) ?_
                        refine ex_st 1 (pc' := 39) (ls' := [(2, xi 2), (0, xr 143), (1, xi x)]) (st' := [xi x, xi (I 150 2)]) rfl ?_
                        refine ex_ic rfl (by first | omega | (constructor <;> omega) | assumption) (by first | omega | (constructor <;> omega) | assumption) (fun (h18 : ¬ (I 150 2) = x) => ?_) (fun (h18 : ¬ ¬ (I 150 2) = x) => ?_)
                        · refine ex_st 5 (pc' := 29) (ls' := [(2, xi 3), (0, xr 143), (1, xi x)]) (st' := [xi (I 143 2), xi 3]) rfl ?_
                          rw [hq0]
                          refine ex_st 1 (pc' := 32) (ls' := [(2, xi 3), (0, xr 143), (1, xi x)]) (st' := []) rfl ?_
                          refine ex_st 3 (pc' := 37) (ls' := [(2, xi 3), (0, xr 143), (1, xi x)]) (st' := [xi 3, xr 150]) rfl ?_
                          refine ex_iald (j := 3) rfl (by decide) (rfl : xSH[150]? = some _) (by decide) (by decide) (by decide) ?_
                          refine ex_st 1 (pc' := 39) (ls' := [(2, xi 3), (0, xr 143), (1, xi x)]) (st' := [xi x, xi (I 150 3)]) rfl ?_
                          refine ex_ic rfl (by first | omega | (constructor <;> omega) | assumption) (by first | omega | (constructor <;> omega) | assumption) (fun (h19 : ¬ (I 150 3) = x) => ?_) (fun (h19 : ¬ ¬ (I 150 3) = x) => ?_)
                          · exfalso; (first | omega | (have h8 := hpg (by omega); omega))
                          · refine ex_st 1 (pc' := 44) (ls' := [(2, xi 3), (0, xr 143), (1, xi x)]) (st' := [xi (-3)]) rfl ?_
                            refine ex_reti rfl rfl ?_
                            exact ⟨x_req (by first | rfl | omega), _, _, rfl, hR⟩
                        · exfalso; (first | omega | (have h8 := hpg (by omega); omega))
                      · exfalso; (first | omega | (have h8 := hpg (by omega); omega))
                    · exfalso; (first | omega | (have h8 := hpg (by omega); omega))
                  · exfalso; (first | omega | (have h8 := hpg (by omega); omega))
                · exfalso; (first | omega | (have h8 := hpg (by omega); omega))
            · refine ex_st 1 (pc' := 21) (ls' := [(2, xi 2), (0, xr 1), (1, xi x)]) (st' := [xi 0]) rfl ?_
              refine ex_retz rfl (Or.inl rfl) rfl ?_
              refine ex_st 1 (pc' := 45) (ls' := [(0, xr 0), (1, xi x)]) (st' := []) rfl ?_
              refine ex_st 1 (pc' := 47) (ls' := [(0, xr 0), (1, xi x)]) (st' := [xi (-3)]) rfl ?_
              refine ex_reti rfl rfl ?_
              refine x_CQ.of (M := xM_m_put) rfl (Nat.le_of_ble_eq_true rfl) ?_
              refine ex_st 2 (pc' := 2) (ls' := [(0, xr 143), (1, xi x)]) (st' := [xi (-1), xi x]) rfl ?_
              refine ex_ic rfl (by first | omega | (constructor <;> omega) | assumption) (by decide) (fun (h20 : ¬ x = (-1)) => ?_) (fun (h20 : ¬ ¬ x = (-1)) => ?_)
              · refine ex_st 2 (pc' := 14) (ls' := [(0, xr 143), (1, xi x)]) (st' := [xi x, xr 143]) rfl ?_
                refine ex_call (ct_m_isThing (by first | omega | (constructor <;> omega) | assumption)) (by decide) rfl ⟨rfl, rfl, rfl⟩ ⟨Nat.le_of_ble_eq_true rfl, rfl, rfl⟩ (Nat.le_of_ble_eq_true rfl) rfl ?_
                refine ex_bne rfl (fun h21 => ?_) (fun h21 => ?_)
                · refine ex_st 5 (pc' := 29) (ls' := [(2, xi 0), (0, xr 143), (1, xi x)]) (st' := [xi (I 143 2), xi 0]) rfl ?_
                  rw [hq0]
                  refine ex_st 1 (pc' := 32) (ls' := [(2, xi 0), (0, xr 143), (1, xi x)]) (st' := []) rfl ?_
                  refine ex_st 3 (pc' := 37) (ls' := [(2, xi 0), (0, xr 143), (1, xi x)]) (st' := [xi 0, xr 150]) rfl ?_
                  refine ex_iald (j := 0) rfl (by decide) (rfl : xSH[150]? = some _) (by decide) (by decide) (by decide) ?_
                  refine ex_st 1 (pc' := 39) (ls' := [(2, xi 0), (0, xr 143), (1, xi x)]) (st' := [xi x, xi (I 150 0)]) rfl ?_
                  refine ex_ic rfl (by first | omega | (constructor <;> omega) | assumption) (by first | omega | (constructor <;> omega) | assumption) (fun (h22 : ¬ (I 150 0) = x) => ?_) (fun (h22 : ¬ ¬ (I 150 0) = x) => ?_)
                  · refine ex_st 5 (pc' := 29) (ls' := [(2, xi 1), (0, xr 143), (1, xi x)]) (st' := [xi (I 143 2), xi 1]) rfl ?_
                    rw [hq0]
                    refine ex_st 1 (pc' := 32) (ls' := [(2, xi 1), (0, xr 143), (1, xi x)]) (st' := []) rfl ?_
                    refine ex_st 3 (pc' := 37) (ls' := [(2, xi 1), (0, xr 143), (1, xi x)]) (st' := [xi 1, xr 150]) rfl ?_
                    refine ex_iald (j := 1) rfl (by decide) (rfl : xSH[150]? = some _) (by decide) (by decide) (by decide) ?_
                    refine ex_st 1 (pc' := 39) (ls' := [(2, xi 1), (0, xr 143), (1, xi x)]) (st' := [xi x, xi (I 150 1)]) rfl ?_
                    refine ex_ic rfl (by first | omega | (constructor <;> omega) | assumption) (by first | omega | (constructor <;> omega) | assumption) (fun (h23 : ¬ (I 150 1) = x) => ?_) (fun (h23 : ¬ ¬ (I 150 1) = x) => ?_)
                    · refine ex_st 5 (pc' := 29) (ls' := [(2, xi 2), (0, xr 143), (1, xi x)]) (st' := [xi (I 143 2), xi 2]) rfl ?_
                      rw [hq0]
                      refine ex_st 1 (pc' := 32) (ls' := [(2, xi 2), (0, xr 143), (1, xi x)]) (st' := []) rfl ?_
                      refine ex_st 3 (pc' := 37) (ls' := [(2, xi 2), (0, xr 143), (1, xi x)]) (st' := [xi 2, xr 150]) rfl ?_
                      refine ex_iald (j := 2) rfl (by decide) (rfl : xSH[150]? = some _) (by decide) (by decide) (by decide) ?_
                      refine ex_st 1 (pc' := 39) (ls' := [(2, xi 2), (0, xr 143), (1, xi x)]) (st' := [xi x, xi (I 150 2)]) rfl ?_
                      refine ex_ic rfl (by first | omega | (constructor <;> omega) | assumption) (by first | omega | (constructor <;> omega) | assumption) (fun (h24 : ¬ (I 150 2) = x) => ?_) (fun (h24 : ¬ ¬ (I 150 2) = x) => ?_)
                      · exfalso; (first | omega | (have h8 := hpg (by omega); omega))
                      · refine ex_st 1 (pc' := 44) (ls' := [(2, xi 2), (0, xr 143), (1, xi x)]) (st' := [xi (-3)]) rfl ?_
                        refine ex_reti rfl rfl ?_
                        exact ⟨x_req (by first | rfl | omega), _, _, rfl, hR⟩
                    · exfalso; (first | omega | (have h8 := hpg (by omega); omega))
                  · exfalso; (first | omega | (have h8 := hpg (by omega); omega))
                · exfalso; (first | omega | (have h8 := hpg (by omega); omega))
              · exfalso; (first | omega | (have h8 := hpg (by omega); omega))
          · refine ex_st 1 (pc' := 21) (ls' := [(2, xi 1), (0, xr 1), (1, xi x)]) (st' := [xi 0]) rfl ?_
            refine ex_retz rfl (Or.inl rfl) rfl ?_
            refine ex_st 1 (pc' := 45) (ls' := [(0, xr 0), (1, xi x)]) (st' := []) rfl ?_
            refine ex_st 1 (pc' := 47) (ls' := [(0, xr 0), (1, xi x)]) (st' := [xi (-3)]) rfl ?_
            refine ex_reti rfl rfl ?_
            refine x_CQ.of (M := xM_m_put) rfl (Nat.le_of_ble_eq_true rfl) ?_
            refine ex_st 2 (pc' := 2) (ls' := [(0, xr 143), (1, xi x)]) (st' := [xi (-1), xi x]) rfl ?_
            refine ex_ic rfl (by first | omega | (constructor <;> omega) | assumption) (by decide) (fun (h25 : ¬ x = (-1)) => ?_) (fun (h25 : ¬ ¬ x = (-1)) => ?_)
            · refine ex_st 2 (pc' := 14) (ls' := [(0, xr 143), (1, xi x)]) (st' := [xi x, xr 143]) rfl ?_
              refine ex_call (ct_m_isThing (by first | omega | (constructor <;> omega) | assumption)) (by decide) rfl ⟨rfl, rfl, rfl⟩ ⟨Nat.le_of_ble_eq_true rfl, rfl, rfl⟩ (Nat.le_of_ble_eq_true rfl) rfl ?_
              refine ex_bne rfl (fun h26 => ?_) (fun h26 => ?_)
              · refine ex_st 5 (pc' := 29) (ls' := [(2, xi 0), (0, xr 143), (1, xi x)]) (st' := [xi (I 143 2), xi 0]) rfl ?_
                rw [hq0]
                refine ex_st 1 (pc' := 32) (ls' := [(2, xi 0), (0, xr 143), (1, xi x)]) (st' := []) rfl ?_
                refine ex_st 3 (pc' := 37) (ls' := [(2, xi 0), (0, xr 143), (1, xi x)]) (st' := [xi 0, xr 150]) rfl ?_
                refine ex_iald (j := 0) rfl (by decide) (rfl : xSH[150]? = some _) (by decide) (by decide) (by decide) ?_
                refine ex_st 1 (pc' := 39) (ls' := [(2, xi 0), (0, xr 143), (1, xi x)]) (st' := [xi x, xi (I 150 0)]) rfl ?_
                refine ex_ic rfl (by first | omega | (constructor <;> omega) | assumption) (by first | omega | (constructor <;> omega) | assumption) (fun (h27 : ¬ (I 150 0) = x) => ?_) (fun (h27 : ¬ ¬ (I 150 0) = x) => ?_)
                · refine ex_st 5 (pc' := 29) (ls' := [(2, xi 1), (0, xr 143), (1, xi x)]) (st' := [xi (I 143 2), xi 1]) rfl ?_
                  rw [hq0]
                  refine ex_st 1 (pc' := 32) (ls' := [(2, xi 1), (0, xr 143), (1, xi x)]) (st' := []) rfl ?_
                  refine ex_st 3 (pc' := 37) (ls' := [(2, xi 1), (0, xr 143), (1, xi x)]) (st' := [xi 1, xr 150]) rfl ?_
                  refine ex_iald (j := 1) rfl (by decide) (rfl : xSH[150]? = some _) (by decide) (by decide) (by decide) ?_
                  refine ex_st 1 (pc' := 39) (ls' := [(2, xi 1), (0, xr 143), (1, xi x)]) (st' := [xi x, xi (I 150 1)]) rfl ?_
                  refine ex_ic rfl (by first | omega | (constructor <;> omega) | assumption) (by first | omega | (constructor <;> omega) | assumption) (fun (h28 : ¬ (I 150 1) = x) => ?_) (fun (h28 : ¬ ¬ (I 150 1) = x) => ?_)
                  · exfalso; (first | omega | (have h8 := hpg (by omega); omega))
                  · refine ex_st 1 (pc' := 44) (ls' := [(2, xi 1), (0, xr 143), (1, xi x)]) (st' := [xi (-3)]) rfl ?_
                    refine ex_reti rfl rfl ?_
                    exact ⟨x_req (by first | rfl | omega), _, _, rfl, hR⟩
                · exfalso; (first | omega | (have h8 := hpg (by omega); omega))
              · exfalso; (first | omega | (have h8 := hpg (by omega); omega))
            · exfalso; (first | omega | (have h8 := hpg (by omega); omega))
        · refine ex_st 1 (pc' := 21) (ls' := [(2, xi 0), (0, xr 1), (1, xi x)]) (st' := [xi 0]) rfl ?_
          refine ex_retz rfl (Or.inl rfl) rfl ?_
          refine ex_st 1 (pc' := 45) (ls' := [(0, xr 0), (1, xi x)]) (st' := []) rfl ?_
          refine ex_st 1 (pc' := 47) (ls' := [(0, xr 0), (1, xi x)]) (st' := [xi (-3)]) rfl ?_
          refine ex_reti rfl rfl ?_
          refine x_CQ.of (M := xM_m_put) rfl (Nat.le_of_ble_eq_true rfl) ?_
          refine ex_st 2 (pc' := 2) (ls' := [(0, xr 143), (1, xi x)]) (st' := [xi (-1), xi x]) rfl ?_
          refine ex_ic rfl (by first | omega | (constructor <;> omega) | assumption) (by decide) (fun (h29 : ¬ x = (-1)) => ?_) (fun (h29 : ¬ ¬ x = (-1)) => ?_)
          · refine ex_st 2 (pc' := 14) (ls' := [(0, xr 143), (1, xi x)]) (st' := [xi x, xr 143]) rfl ?_
            refine ex_call (ct_m_isThing (by first | omega | (constructor <;> omega) | assumption)) (by decide) rfl ⟨rfl, rfl, rfl⟩ ⟨Nat.le_of_ble_eq_true rfl, rfl, rfl⟩ (Nat.le_of_ble_eq_true rfl) rfl ?_
            refine ex_bne rfl (fun h30 => ?_) (fun h30 => ?_)
            · refine ex_st 5 (pc' := 29) (ls' := [(2, xi 0), (0, xr 143), (1, xi x)]) (st' := [xi (I 143 2), xi 0]) rfl ?_
              rw [hq0]
              refine ex_st 1 (pc' := 32) (ls' := [(2, xi 0), (0, xr 143), (1, xi x)]) (st' := []) rfl ?_
              refine ex_st 3 (pc' := 37) (ls' := [(2, xi 0), (0, xr 143), (1, xi x)]) (st' := [xi 0, xr 150]) rfl ?_
              refine ex_iald (j := 0) rfl (by decide) (rfl : xSH[150]? = some _) (by decide) (by decide) (by decide) ?_
              refine ex_st 1 (pc' := 39) (ls' := [(2, xi 0), (0, xr 143), (1, xi x)]) (st' := [xi x, xi (I 150 0)]) rfl ?_
              refine ex_ic rfl (by first | omega | (constructor <;> omega) | assumption) (by first | omega | (constructor <;> omega) | assumption) (fun (h31 : ¬ (I 150 0) = x) => ?_) (fun (h31 : ¬ ¬ (I 150 0) = x) => ?_)
              · exfalso; (first | omega | (have h8 := hpg (by omega); omega))
              · refine ex_st 1 (pc' := 44) (ls' := [(2, xi 0), (0, xr 143), (1, xi x)]) (st' := [xi (-3)]) rfl ?_
                refine ex_reti rfl rfl ?_
                exact ⟨x_req (by first | rfl | omega), _, _, rfl, hR⟩
            · exfalso; (first | omega | (have h8 := hpg (by omega); omega))
          · exfalso; (first | omega | (have h8 := hpg (by omega); omega))
      · refine ex_st 1 (pc' := 23) (ls' := [(0, xr 0), (1, xi x)]) (st' := [xi (-1)]) rfl ?_
        refine ex_reti rfl rfl ?_
        refine x_CQ.of (M := xM_m_put) rfl (Nat.le_of_ble_eq_true rfl) ?_
        refine ex_st 2 (pc' := 2) (ls' := [(0, xr 143), (1, xi x)]) (st' := [xi (-1), xi x]) rfl ?_
        refine ex_ic rfl (by first | omega | (constructor <;> omega) | assumption) (by decide) (fun (h32 : ¬ x = (-1)) => ?_) (fun (h32 : ¬ ¬ x = (-1)) => ?_)
        · refine ex_st 2 (pc' := 14) (ls' := [(0, xr 143), (1, xi x)]) (st' := [xi x, xr 143]) rfl ?_
          refine ex_call (ct_m_isThing (by first | omega | (constructor <;> omega) | assumption)) (by decide) rfl ⟨rfl, rfl, rfl⟩ ⟨Nat.le_of_ble_eq_true rfl, rfl, rfl⟩ (Nat.le_of_ble_eq_true rfl) rfl ?_
          refine ex_bne rfl (fun h33 => ?_) (fun h33 => ?_)
          · exfalso; (first | omega | (have h8 := hpg (by omega); omega))
          · refine ex_st 1 (pc' := 21) (ls' := [(0, xr 143), (1, xi x)]) (st' := [xi (-1)]) rfl ?_
            refine ex_reti rfl rfl ?_
            exact ⟨x_req (by first | rfl | omega), _, _, rfl, hR⟩
        · exfalso; (first | omega | (have h8 := hpg (by omega); omega))
    · refine ex_st 3 (pc' := 10) (ls' := [(0, xr 0), (1, xi x)]) (st' := [xi 0, xr 1]) rfl ?_
      refine ex_pfi rfl (by decide) (rfl : xSH[1]? = some _) (by decide) rfl (by decide) (fun h => by cases h) ?_
      refine ex_st 1 (pc' := 14) (ls' := [(0, xr 0), (1, xi x)]) (st' := [xi 0]) rfl ?_
      refine ex_reti rfl rfl ?_
      refine x_CQ.of (M := xM_m_put) rfl (Nat.le_of_ble_eq_true rfl) ?_
      refine ex_st 2 (pc' := 2) (ls' := [(0, xr 143), (1, xi x)]) (st' := [xi (-1), xi x]) rfl ?_
      refine ex_ic rfl (by first | omega | (constructor <;> omega) | assumption) (by decide) (fun (h34 : ¬ x = (-1)) => ?_) (fun (h34 : ¬ ¬ x = (-1)) => ?_)
      · exfalso; (first | omega | (have h8 := hpg (by omega); omega))
      · refine ex_st 2 (pc' := 7) (ls' := [(0, xr 143), (1, xi x)]) (st' := [xi 0, xr 143]) rfl ?_
        refine ex_pfi rfl (by decide) (rfl : xSH[143]? = some _) (by decide) rfl (by decide) (fun h => by cases h) ?_
        refine ex_st 1 (pc' := 11) (ls' := [(0, xr 143), (1, xi x)]) (st' := [xi 0]) rfl ?_
        refine ex_reti rfl rfl ?_
        refine ⟨x_req (by first | rfl | omega), ?_⟩
        refine ⟨_, _, rfl, ?_⟩
        generalize hM : (x_up (x_up I 1 4 0) 143 2 0) = I2
        have hF : ∀ k j, ¬ ((k = 143 ∧ j = 2) ∨ (k = 1 ∧ j = 4)) → I2 k j = I k j := by intro k j hk; rw [← hM]; (repeat rw [x_up_far (by omega)])
        have hw0 : I2 143 2 = 0 := by rw [← hM]; (repeat (first | rw [x_up_far (by omega)] | rw [x_up_at2 (by omega) (by omega)]))
        have hw1 : I2 1 4 = 0 := by rw [← hM]; (repeat (first | rw [x_up_far (by omega)] | rw [x_up_at2 (by omega) (by omega)]))
        clear hM
        have hI2 : RIw I2 := by
          obtain ⟨gs, go, ga, gb, gr, gd, gg, ge, gp, gk⟩ := id hI
          exact ⟨gs.fr ⟨by (repeat rw [hF _ _ (by omega)]); try rfl, by (repeat rw [hF _ _ (by omega)]); try rfl, by (repeat rw [hF _ _ (by omega)]); try rfl, by (repeat rw [hF _ _ (by omega)]); try rfl, by (repeat rw [hF _ _ (by omega)]); try rfl, by (repeat rw [hF _ _ (by omega)]); try rfl, by (repeat rw [hF _ _ (by omega)]); try rfl, by (repeat rw [hF _ _ (by omega)]); try rfl, by (repeat rw [hF _ _ (by omega)]); try rfl⟩, go.fr (by intros; (repeat rw [hF _ _ (by omega)]); try rfl) (by intros; (repeat rw [hF _ _ (by omega)]); try rfl), ga.fr (by intros; (repeat rw [hF _ _ (by omega)]); try rfl) (by (repeat rw [hF _ _ (by omega)]); try rfl), gb.fr (by intros; (repeat rw [hF _ _ (by omega)]); try rfl) (by intros; (repeat rw [hF _ _ (by omega)]); try rfl), gr.fr (by intros; (repeat rw [hF _ _ (by omega)]); try rfl) (by intros; (repeat rw [hF _ _ (by omega)]); try rfl), gd.fr (by intros; (repeat rw [hF _ _ (by omega)]); try rfl) (by intros; (repeat rw [hF _ _ (by omega)]); try rfl) (by (repeat rw [hF _ _ (by omega)]); try rfl), gg.fr ⟨by (repeat rw [hF _ _ (by omega)]); try rfl, by (repeat rw [hF _ _ (by omega)]); try rfl⟩ (by intros; (repeat rw [hF _ _ (by omega)]); try rfl) (by intros; (repeat rw [hF _ _ (by omega)]); try rfl), ge.fr ⟨by (repeat rw [hF _ _ (by omega)]); try rfl, by (repeat rw [hF _ _ (by omega)]); try rfl, by (repeat rw [hF _ _ (by omega)]); try rfl⟩ (by intros; (repeat rw [hF _ _ (by omega)]); try rfl) (by intros; (repeat rw [hF _ _ (by omega)]); try rfl), gp.fr ⟨by (repeat rw [hF _ _ (by omega)]); try rfl, by (repeat rw [hF _ _ (by omega)]); try rfl, by (repeat rw [hF _ _ (by omega)]); try rfl⟩ (by intros; (repeat rw [hF _ _ (by omega)]); try rfl) (by intros; (repeat rw [hF _ _ (by omega)]); try rfl), gk.fr ⟨by (repeat rw [hF _ _ (by omega)]); try rfl, by (repeat rw [hF _ _ (by omega)]); try rfl, by (repeat rw [hF _ _ (by omega)]); try rfl⟩ (by intros; (repeat rw [hF _ _ (by omega)]); try rfl) (by intros; (repeat rw [hF _ _ (by omega)]); try rfl)⟩
        refine ⟨⟨hNs.fr ⟨by (repeat rw [hF _ _ (by omega)]); try rfl, by (repeat rw [hF _ _ (by omega)]); try rfl, by (repeat rw [hF _ _ (by omega)]); try rfl, by (repeat rw [hF _ _ (by omega)]); try rfl, by (repeat rw [hF _ _ (by omega)]); try rfl, by (repeat rw [hF _ _ (by omega)]); try rfl, by (repeat rw [hF _ _ (by omega)]); try rfl, by (repeat rw [hF _ _ (by omega)]); try rfl, by (repeat rw [hF _ _ (by omega)]); try rfl⟩, hNo.fr (by intros; (repeat rw [hF _ _ (by omega)]); try rfl) (by intros; (repeat rw [hF _ _ (by omega)]); try rfl), hNa.fr (by intros; (repeat rw [hF _ _ (by omega)]); try rfl) (by (repeat rw [hF _ _ (by omega)]); try rfl), hNb.fr (by intros; (repeat rw [hF _ _ (by omega)]); try rfl) (by intros; (repeat rw [hF _ _ (by omega)]); try rfl), hNr.fr (by intros; (repeat rw [hF _ _ (by omega)]); try rfl) (by intros; (repeat rw [hF _ _ (by omega)]); try rfl), hNd.fr (by intros; (repeat rw [hF _ _ (by omega)]); try rfl) (by intros; (repeat rw [hF _ _ (by omega)]); try rfl) (by (repeat rw [hF _ _ (by omega)]); try rfl), ?_, hNe.fr ⟨by (repeat rw [hF _ _ (by omega)]); try rfl, by (repeat rw [hF _ _ (by omega)]); try rfl, by (repeat rw [hF _ _ (by omega)]); try rfl⟩ (by intros; (repeat rw [hF _ _ (by omega)]); try rfl) (by intros; (repeat rw [hF _ _ (by omega)]); try rfl), hNp.fr ⟨by (repeat rw [hF _ _ (by omega)]); try rfl, by (repeat rw [hF _ _ (by omega)]); try rfl, by (repeat rw [hF _ _ (by omega)]); try rfl⟩ (by intros; (repeat rw [hF _ _ (by omega)]); try rfl) (by intros; (repeat rw [hF _ _ (by omega)]); try rfl), hNk.fr ⟨by (repeat rw [hF _ _ (by omega)]); try rfl, by (repeat rw [hF _ _ (by omega)]); try rfl, by (repeat rw [hF _ _ (by omega)]); try rfl⟩ (by intros; (repeat rw [hF _ _ (by omega)]); try rfl) (by intros; (repeat rw [hF _ _ (by omega)]); try rfl)⟩, hI2, hT.fr ⟨by (repeat rw [hF _ _ (by omega)]); try rfl, by (repeat rw [hF _ _ (by omega)]); try rfl⟩ (by intros; (repeat rw [hF _ _ (by omega)]); try rfl) (by intros; (repeat rw [hF _ _ (by omega)]); try rfl) (by intros; (repeat rw [hF _ _ (by omega)]); try rfl), hX.fr ⟨by (repeat rw [hF _ _ (by omega)]); try rfl, by (repeat rw [hF _ _ (by omega)]); try rfl⟩ (by intros; (repeat rw [hF _ _ (by omega)]); try rfl), hC.fr ⟨by (repeat rw [hF _ _ (by omega)]); try rfl, by (repeat rw [hF _ _ (by omega)]); try rfl⟩ (by intros; (repeat rw [hF _ _ (by omega)]); try rfl), hH.fr ⟨by (repeat rw [hF _ _ (by omega)]); try rfl, by (repeat rw [hF _ _ (by omega)]); try rfl, by (repeat rw [hF _ _ (by omega)]); try rfl⟩ (by intros; (repeat rw [hF _ _ (by omega)]); try rfl) (by intros; (repeat rw [hF _ _ (by omega)]); try rfl), hQ.fr (by intros; (repeat rw [hF _ _ (by omega)]); try rfl) (by intros; (repeat rw [hF _ _ (by omega)]); try rfl) (by intros; (repeat rw [hF _ _ (by omega)]); try rfl) (by intros; (repeat rw [hF _ _ (by omega)]); try rfl)⟩
        · refine ⟨by (repeat (first | rw [hw0] | rw [hw1] | rw [hF _ _ (by omega)])), by (repeat (first | rw [hw0] | rw [hw1] | rw [hF _ _ (by omega)])); omega, by (repeat (first | rw [hw0] | rw [hw1] | rw [hF _ _ (by omega)])); omega, fun y hy => by (repeat (first | rw [hw0] | rw [hw1] | rw [hF _ _ (by omega)])); exact g4 y hy, fun y hy => ?_, fun y z hyz hz => ?_⟩ <;> (exfalso; rw [hw0] at *; omega)
theorem op_taken {sc : List Int} {I : Nat → Nat → Int} {L : Nat → Nat → Int64} (hR : Rl I L) {t k : Int} (ht : x_R t) (hk0 : x_R k) : x_PQ sc xN_G_taken [xr 0, xi t, xi k] xN_m_taken [xr 143, xi t, xi k] (xSH, I, L) := by
  obtain ⟨⟨hNs, hNo, hNa, hNb, hNr, hNd, hNg, hNe, hNp, hNk⟩, hI, hT, hX, hC, hH, hQ⟩ := id hR
  have hs := hNs
  unfold RNs at hs
  by_cases hv : 0 ≤ t ∧ t < I 1 1
  · obtain ⟨n, rfl⟩ := Int.eq_ofNat_of_zero_le hv.1
    have ho := hNo n (by omega)
    by_cases hk : 0 ≤ k ∧ k < 7
    · obtain ⟨q, hq⟩ := Int.eq_ofNat_of_zero_le ho.2.1
      have hq2 : I (11 + 3 * n) 0 = (q : Int) := by omega
      rcases (show q = 0 ∨ q = 1 ∨ q = 2 ∨ q = 3 ∨ q = 4 ∨ q = 5 ∨ q = 6 by omega) with rfl | rfl | rfl | rfl | rfl | rfl | rfl
      · skip
        have hq : I 144 n = 0 := hq
        have hq2 : I (11 + 3 * n) 0 = 0 := hq2
        refine x_CQ.of (M := xM_G_taken) rfl (Nat.le_of_ble_eq_true rfl) ?_
        refine ex_st 1 (pc' := 1) (ls' := [(0, xr 0), (1, xi (↑n)), (2, xi k)]) (st' := [xi k]) rfl ?_
        refine ex_call (ct_G_isKind (by first | omega | (constructor <;> omega) | assumption)) (by decide) rfl ⟨rfl, rfl, rfl⟩ ⟨Nat.le_of_ble_eq_true rfl, rfl, rfl⟩ (Nat.le_of_ble_eq_true rfl) rfl ?_
        refine ex_bne rfl (fun h0 => ?_) (fun h0 => ?_)
        · refine ex_st 2 (pc' := 12) (ls' := [(0, xr 0), (1, xi (↑n)), (2, xi k)]) (st' := [xi (↑n), xr 0]) rfl ?_
          refine ex_call (ct_G_isOfficial2 (c := I 1 1) (by first | omega | (constructor <;> omega) | assumption | ((repeat rw [x_up_far (by omega)]); first | rfl | omega | (constructor <;> omega))) (by (repeat rw [x_up_far (by omega)]); try rfl) (by first | omega | (constructor <;> omega) | assumption | ((repeat rw [x_up_far (by omega)]); first | rfl | omega | (constructor <;> omega)))) (by decide) rfl ⟨rfl, rfl, rfl⟩ ⟨Nat.le_of_ble_eq_true rfl, rfl, rfl⟩ (Nat.le_of_ble_eq_true rfl) rfl ?_
          refine ex_bne rfl (fun h1 => ?_) (fun h1 => ?_)
          · refine ex_st 4 (pc' := 29) (ls' := [(0, xr 0), (1, xi (↑n)), (2, xi k)]) (st' := [xi (↑n), xr 2]) rfl ?_
            refine ex_aald (q := 11 + 3 * n) (j := n) rfl (by decide) (rfl : xSH[2]? = some _) (by decide) (by omega) (by omega) (by decide) (x_aa2 n (by omega)) (by omega) ?_
            refine ex_gfi rfl (by omega) (x_so1 n (by omega)).1 (by decide) (by decide) rfl ?_
            rw [hq2]
            refine ex_st 3 (pc' := 36) (ls' := [(3, xi 0), (0, xr 0), (1, xi (↑n)), (2, xi k)]) (st' := [xi k, xi 0]) rfl ?_
            refine ex_inl (M' := xM_G_isKindUnder) (as := [xi 0, xi k]) (rest := []) (D' := 28) rfl (Nat.le_of_ble_eq_true rfl) (by decide) rfl ⟨rfl, rfl, rfl⟩ ⟨Nat.le_of_ble_eq_true rfl, rfl, rfl⟩ (Nat.le_of_ble_eq_true rfl) rfl ?_
            refine ex_st 6 (pc' := 7) (ls' := [(3, xi 0), (2, xi 0), (0, xi 0), (1, xi k)]) (st' := [xi 7, xi 0]) rfl ?_
            refine ex_st 1 (pc' := 10) (ls' := [(3, xi 0), (2, xi 0), (0, xi 0), (1, xi k)]) (st' := []) rfl ?_
            refine ex_st 1 (pc' := 11) (ls' := [(3, xi 0), (2, xi 0), (0, xi 0), (1, xi k)]) (st' := [xi 0]) rfl ?_
            refine ex_st 1 (pc' := 14) (ls' := [(3, xi 0), (2, xi 0), (0, xi 0), (1, xi k)]) (st' := []) rfl ?_
            refine ex_st 2 (pc' := 16) (ls' := [(3, xi 0), (2, xi 0), (0, xi 0), (1, xi k)]) (st' := [xi k, xi 0]) rfl ?_
            refine ex_ic rfl (by decide) (by first | omega | (constructor <;> omega) | assumption) (fun (h2 : ¬ ((0 : Int)) = k) => ?_) (fun (h2 : ¬ ¬ ((0 : Int)) = k) => ?_)
            · refine ex_st 2 (pc' := 25) (ls' := [(3, xi 0), (2, xi 0), (0, xi 0), (1, xi k)]) (st' := [xi 0, xr 1001]) rfl ?_
              refine ex_cald (v := -1) (j := 0) rfl (by decide) rfl (by decide) (by decide) (by decide) (rfl) ?_
              refine ex_st 5 (pc' := 7) (ls' := [(3, xi 1), (2, xi (-1)), (0, xi 0), (1, xi k)]) (st' := [xi 7, xi 1]) rfl ?_
              refine ex_st 1 (pc' := 10) (ls' := [(3, xi 1), (2, xi (-1)), (0, xi 0), (1, xi k)]) (st' := []) rfl ?_
              refine ex_st 1 (pc' := 11) (ls' := [(3, xi 1), (2, xi (-1)), (0, xi 0), (1, xi k)]) (st' := [xi (-1)]) rfl ?_
              refine ex_st 1 (pc' := 33) (ls' := [(3, xi 1), (2, xi (-1)), (0, xi 0), (1, xi k)]) (st' := []) rfl ?_
              refine ex_st 1 (pc' := 34) (ls' := [(3, xi 1), (2, xi (-1)), (0, xi 0), (1, xi k)]) (st' := [xi 0]) rfl ?_
              refine ex_retz rfl (Or.inl rfl) rfl ?_
              refine ex_st 1 (pc' := 46) (ls' := [(3, xi 0), (0, xr 0), (1, xi (↑n)), (2, xi k)]) (st' := []) rfl ?_
              refine ex_st 1 (pc' := 48) (ls' := [(3, xi 0), (0, xr 0), (1, xi (↑n)), (2, xi k)]) (st' := [xi (-12)]) rfl ?_
              refine ex_reti rfl rfl ?_
              refine x_CQ.of (M := xM_m_taken) rfl (Nat.le_of_ble_eq_true rfl) ?_
              refine ex_st 4 (pc' := 5) (ls' := [(0, xr 143), (1, xi (↑n)), (2, xi k)]) (st' := [xi 6, xi 0, xi k, xr 143]) rfl ?_
              refine ex_call (ct_m_in (by first | omega | (constructor <;> omega) | assumption) (by first | omega | (constructor <;> omega) | assumption) (by first | omega | (constructor <;> omega) | assumption)) (by decide) rfl ⟨rfl, rfl, rfl⟩ ⟨Nat.le_of_ble_eq_true rfl, rfl, rfl⟩ (Nat.le_of_ble_eq_true rfl) rfl ?_
              refine ex_bne rfl (fun h3 => ?_) (fun h3 => ?_)
              · refine ex_st 2 (pc' := 16) (ls' := [(0, xr 143), (1, xi (↑n)), (2, xi k)]) (st' := [xi (↑n), xr 143]) rfl ?_
                refine ex_call (ct_m_isOfficial2 (c := I 143 0) (by first | omega | (constructor <;> omega) | assumption | ((repeat rw [x_up_far (by omega)]); first | rfl | omega | (constructor <;> omega))) (by (repeat rw [x_up_far (by omega)]); try rfl) (by first | omega | (constructor <;> omega) | assumption | ((repeat rw [x_up_far (by omega)]); first | rfl | omega | (constructor <;> omega)))) (by decide) rfl ⟨rfl, rfl, rfl⟩ ⟨Nat.le_of_ble_eq_true rfl, rfl, rfl⟩ (Nat.le_of_ble_eq_true rfl) rfl ?_
                refine ex_bne rfl (fun h4 => ?_) (fun h4 => ?_)
                · refine ex_st 3 (pc' := 30) (ls' := [(0, xr 143), (1, xi (↑n)), (2, xi k)]) (st' := [xi (↑n), xr 144]) rfl ?_
                  refine ex_iald (j := n) rfl (by decide) (rfl : xSH[144]? = some _) (by omega) (by omega) (by decide) ?_
                  rw [hq]
                  refine ex_st 2 (pc' := 33) (ls' := [(3, xi 0), (0, xr 143), (1, xi (↑n)), (2, xi k)]) (st' := [xi k]) rfl ?_
                  refine ex_if rfl (by first | omega | (constructor <;> omega) | assumption) (fun (h5 : k = 0) => ?_) (fun (h5 : ¬ k = 0) => ?_)
                  · exfalso; omega
                  · refine ex_st 2 (pc' := 38) (ls' := [(3, xi 0), (0, xr 143), (1, xi (↑n)), (2, xi k)]) (st' := [xi k, xi 0]) rfl ?_
                    refine ex_ic rfl (by decide) (by first | omega | (constructor <;> omega) | assumption) (fun (h6 : ((0 : Int)) = k) => ?_) (fun (h6 : ¬ ((0 : Int)) = k) => ?_)
                    · exfalso; omega
                    · refine ex_st 2 (pc' := 43) (ls' := [(3, xi 0), (0, xr 143), (1, xi (↑n)), (2, xi k)]) (st' := [xi 1, xi k]) rfl ?_
                      refine ex_ic rfl (by first | omega | (constructor <;> omega) | assumption) (by decide) (fun (h7 : ¬ k = 1) => ?_) (fun (h7 : ¬ ¬ k = 1) => ?_)
                      · refine ex_st 2 (pc' := 53) (ls' := [(3, xi 0), (0, xr 143), (1, xi (↑n)), (2, xi k)]) (st' := [xi 2, xi k]) rfl ?_
                        refine ex_ic rfl (by first | omega | (constructor <;> omega) | assumption) (by decide) (fun (h8 : ¬ k = 2) => ?_) (fun (h8 : ¬ ¬ k = 2) => ?_)
                        · refine ex_st 2 (pc' := 63) (ls' := [(3, xi 0), (0, xr 143), (1, xi (↑n)), (2, xi k)]) (st' := [xi 3, xi k]) rfl ?_
                          refine ex_ic rfl (by first | omega | (constructor <;> omega) | assumption) (by decide) (fun (h9 : ¬ k = 3) => ?_) (fun (h9 : ¬ ¬ k = 3) => ?_)
                          · refine ex_st 1 (pc' := 78) (ls' := [(3, xi 0), (0, xr 143), (1, xi (↑n)), (2, xi k)]) (st' := [xi (-12)]) rfl ?_
                            refine ex_reti rfl rfl ?_
                            exact ⟨x_req (by first | rfl | omega), _, _, rfl, hR⟩
                          · refine ex_st 2 (pc' := 69) (ls' := [(3, xi 0), (0, xr 143), (1, xi (↑n)), (2, xi k)]) (st' := [xi 6, xi 0]) rfl ?_
                            refine ex_st 1 (pc' := 76) (ls' := [(3, xi 0), (0, xr 143), (1, xi (↑n)), (2, xi k)]) (st' := []) rfl ?_
                            refine ex_st 1 (pc' := 78) (ls' := [(3, xi 0), (0, xr 143), (1, xi (↑n)), (2, xi k)]) (st' := [xi (-12)]) rfl ?_
                            refine ex_reti rfl rfl ?_
                            exact ⟨x_req (by first | rfl | omega), _, _, rfl, hR⟩
                        · refine ex_st 2 (pc' := 58) (ls' := [(3, xi 0), (0, xr 143), (1, xi (↑n)), (2, xi k)]) (st' := [xi 5, xi 0]) rfl ?_
                          refine ex_st 1 (pc' := 61) (ls' := [(3, xi 0), (0, xr 143), (1, xi (↑n)), (2, xi k)]) (st' := []) rfl ?_
                          refine ex_st 2 (pc' := 63) (ls' := [(3, xi 0), (0, xr 143), (1, xi (↑n)), (2, xi k)]) (st' := [xi 3, xi k]) rfl ?_
                          refine ex_ic rfl (by first | omega | (constructor <;> omega) | assumption) (by decide) (fun (h10 : ¬ k = 3) => ?_) (fun (h10 : ¬ ¬ k = 3) => ?_)
                          · refine ex_st 1 (pc' := 78) (ls' := [(3, xi 0), (0, xr 143), (1, xi (↑n)), (2, xi k)]) (st' := [xi (-12)]) rfl ?_
                            refine ex_reti rfl rfl ?_
                            exact ⟨x_req (by first | rfl | omega), _, _, rfl, hR⟩
                          · exfalso; omega
                      · refine ex_st 2 (pc' := 48) (ls' := [(3, xi 0), (0, xr 143), (1, xi (↑n)), (2, xi k)]) (st' := [xi 4, xi 0]) rfl ?_
                        refine ex_st 1 (pc' := 51) (ls' := [(3, xi 0), (0, xr 143), (1, xi (↑n)), (2, xi k)]) (st' := []) rfl ?_
                        refine ex_st 2 (pc' := 53) (ls' := [(3, xi 0), (0, xr 143), (1, xi (↑n)), (2, xi k)]) (st' := [xi 2, xi k]) rfl ?_
                        refine ex_ic rfl (by first | omega | (constructor <;> omega) | assumption) (by decide) (fun (h11 : ¬ k = 2) => ?_) (fun (h11 : ¬ ¬ k = 2) => ?_)
                        · refine ex_st 2 (pc' := 63) (ls' := [(3, xi 0), (0, xr 143), (1, xi (↑n)), (2, xi k)]) (st' := [xi 3, xi k]) rfl ?_
                          refine ex_ic rfl (by first | omega | (constructor <;> omega) | assumption) (by decide) (fun (h12 : ¬ k = 3) => ?_) (fun (h12 : ¬ ¬ k = 3) => ?_)
                          · refine ex_st 1 (pc' := 78) (ls' := [(3, xi 0), (0, xr 143), (1, xi (↑n)), (2, xi k)]) (st' := [xi (-12)]) rfl ?_
                            refine ex_reti rfl rfl ?_
                            exact ⟨x_req (by first | rfl | omega), _, _, rfl, hR⟩
                          · exfalso; omega
                        · exfalso; omega
                · exfalso; omega
              · exfalso; omega
            · refine ex_st 1 (pc' := 20) (ls' := [(3, xi 0), (2, xi 0), (0, xi 0), (1, xi k)]) (st' := [xi 1]) rfl ?_
              refine ex_retz rfl (Or.inr rfl) rfl ?_
              refine ex_st 1 (pc' := 42) (ls' := [(3, xi 0), (0, xr 0), (1, xi (↑n)), (2, xi k)]) (st' := []) rfl ?_
              refine ex_st 2 (pc' := 48) (ls' := [(3, xi 0), (0, xr 0), (1, xi (↑n)), (2, xi k)]) (st' := [xi 0]) rfl ?_
              refine ex_reti rfl rfl ?_
              refine x_CQ.of (M := xM_m_taken) rfl (Nat.le_of_ble_eq_true rfl) ?_
              refine ex_st 4 (pc' := 5) (ls' := [(0, xr 143), (1, xi (↑n)), (2, xi k)]) (st' := [xi 6, xi 0, xi k, xr 143]) rfl ?_
              refine ex_call (ct_m_in (by first | omega | (constructor <;> omega) | assumption) (by first | omega | (constructor <;> omega) | assumption) (by first | omega | (constructor <;> omega) | assumption)) (by decide) rfl ⟨rfl, rfl, rfl⟩ ⟨Nat.le_of_ble_eq_true rfl, rfl, rfl⟩ (Nat.le_of_ble_eq_true rfl) rfl ?_
              refine ex_bne rfl (fun h13 => ?_) (fun h13 => ?_)
              · refine ex_st 2 (pc' := 16) (ls' := [(0, xr 143), (1, xi (↑n)), (2, xi k)]) (st' := [xi (↑n), xr 143]) rfl ?_
                refine ex_call (ct_m_isOfficial2 (c := I 143 0) (by first | omega | (constructor <;> omega) | assumption | ((repeat rw [x_up_far (by omega)]); first | rfl | omega | (constructor <;> omega))) (by (repeat rw [x_up_far (by omega)]); try rfl) (by first | omega | (constructor <;> omega) | assumption | ((repeat rw [x_up_far (by omega)]); first | rfl | omega | (constructor <;> omega)))) (by decide) rfl ⟨rfl, rfl, rfl⟩ ⟨Nat.le_of_ble_eq_true rfl, rfl, rfl⟩ (Nat.le_of_ble_eq_true rfl) rfl ?_
                refine ex_bne rfl (fun h14 => ?_) (fun h14 => ?_)
                · refine ex_st 3 (pc' := 30) (ls' := [(0, xr 143), (1, xi (↑n)), (2, xi k)]) (st' := [xi (↑n), xr 144]) rfl ?_
                  refine ex_iald (j := n) rfl (by decide) (rfl : xSH[144]? = some _) (by omega) (by omega) (by decide) ?_
                  rw [hq]
                  refine ex_st 2 (pc' := 33) (ls' := [(3, xi 0), (0, xr 143), (1, xi (↑n)), (2, xi k)]) (st' := [xi k]) rfl ?_
                  refine ex_if rfl (by first | omega | (constructor <;> omega) | assumption) (fun (h15 : k = 0) => ?_) (fun (h15 : ¬ k = 0) => ?_)
                  · refine ex_st 2 (pc' := 78) (ls' := [(3, xi 0), (0, xr 143), (1, xi (↑n)), (2, xi k)]) (st' := [xi 0]) rfl ?_
                    refine ex_reti rfl rfl ?_
                    exact ⟨x_req (by first | rfl | omega), _, _, rfl, hR⟩
                  · exfalso; omega
                · exfalso; omega
              · exfalso; omega
          · exfalso; omega
        · exfalso; omega
      · skip
        have hq : I 144 n = 1 := hq
        have hq2 : I (11 + 3 * n) 0 = 1 := hq2
        refine x_CQ.of (M := xM_G_taken) rfl (Nat.le_of_ble_eq_true rfl) ?_
        refine ex_st 1 (pc' := 1) (ls' := [(0, xr 0), (1, xi (↑n)), (2, xi k)]) (st' := [xi k]) rfl ?_
        refine ex_call (ct_G_isKind (by first | omega | (constructor <;> omega) | assumption)) (by decide) rfl ⟨rfl, rfl, rfl⟩ ⟨Nat.le_of_ble_eq_true rfl, rfl, rfl⟩ (Nat.le_of_ble_eq_true rfl) rfl ?_
        refine ex_bne rfl (fun h0 => ?_) (fun h0 => ?_)
        · refine ex_st 2 (pc' := 12) (ls' := [(0, xr 0), (1, xi (↑n)), (2, xi k)]) (st' := [xi (↑n), xr 0]) rfl ?_
          refine ex_call (ct_G_isOfficial2 (c := I 1 1) (by first | omega | (constructor <;> omega) | assumption | ((repeat rw [x_up_far (by omega)]); first | rfl | omega | (constructor <;> omega))) (by (repeat rw [x_up_far (by omega)]); try rfl) (by first | omega | (constructor <;> omega) | assumption | ((repeat rw [x_up_far (by omega)]); first | rfl | omega | (constructor <;> omega)))) (by decide) rfl ⟨rfl, rfl, rfl⟩ ⟨Nat.le_of_ble_eq_true rfl, rfl, rfl⟩ (Nat.le_of_ble_eq_true rfl) rfl ?_
          refine ex_bne rfl (fun h1 => ?_) (fun h1 => ?_)
          · refine ex_st 4 (pc' := 29) (ls' := [(0, xr 0), (1, xi (↑n)), (2, xi k)]) (st' := [xi (↑n), xr 2]) rfl ?_
            refine ex_aald (q := 11 + 3 * n) (j := n) rfl (by decide) (rfl : xSH[2]? = some _) (by decide) (by omega) (by omega) (by decide) (x_aa2 n (by omega)) (by omega) ?_
            refine ex_gfi rfl (by omega) (x_so1 n (by omega)).1 (by decide) (by decide) rfl ?_
            rw [hq2]
            refine ex_st 3 (pc' := 36) (ls' := [(3, xi 1), (0, xr 0), (1, xi (↑n)), (2, xi k)]) (st' := [xi k, xi 1]) rfl ?_
            refine ex_inl (M' := xM_G_isKindUnder) (as := [xi 1, xi k]) (rest := []) (D' := 28) rfl (Nat.le_of_ble_eq_true rfl) (by decide) rfl ⟨rfl, rfl, rfl⟩ ⟨Nat.le_of_ble_eq_true rfl, rfl, rfl⟩ (Nat.le_of_ble_eq_true rfl) rfl ?_
            refine ex_st 6 (pc' := 7) (ls' := [(3, xi 0), (2, xi 1), (0, xi 1), (1, xi k)]) (st' := [xi 7, xi 0]) rfl ?_
            refine ex_st 1 (pc' := 10) (ls' := [(3, xi 0), (2, xi 1), (0, xi 1), (1, xi k)]) (st' := []) rfl ?_
            refine ex_st 1 (pc' := 11) (ls' := [(3, xi 0), (2, xi 1), (0, xi 1), (1, xi k)]) (st' := [xi 1]) rfl ?_
            refine ex_st 1 (pc' := 14) (ls' := [(3, xi 0), (2, xi 1), (0, xi 1), (1, xi k)]) (st' := []) rfl ?_
            refine ex_st 2 (pc' := 16) (ls' := [(3, xi 0), (2, xi 1), (0, xi 1), (1, xi k)]) (st' := [xi k, xi 1]) rfl ?_
            refine ex_ic rfl (by decide) (by first | omega | (constructor <;> omega) | assumption) (fun (h2 : ¬ ((1 : Int)) = k) => ?_) (fun (h2 : ¬ ¬ ((1 : Int)) = k) => ?_)
            · refine ex_st 2 (pc' := 25) (ls' := [(3, xi 0), (2, xi 1), (0, xi 1), (1, xi k)]) (st' := [xi 1, xr 1001]) rfl ?_
              refine ex_cald (v := 0) (j := 1) rfl (by decide) rfl (by decide) (by decide) (by decide) (rfl) ?_
              refine ex_st 5 (pc' := 7) (ls' := [(3, xi 1), (2, xi 0), (0, xi 1), (1, xi k)]) (st' := [xi 7, xi 1]) rfl ?_
              refine ex_st 1 (pc' := 10) (ls' := [(3, xi 1), (2, xi 0), (0, xi 1), (1, xi k)]) (st' := []) rfl ?_
              refine ex_st 1 (pc' := 11) (ls' := [(3, xi 1), (2, xi 0), (0, xi 1), (1, xi k)]) (st' := [xi 0]) rfl ?_
              refine ex_st 1 (pc' := 14) (ls' := [(3, xi 1), (2, xi 0), (0, xi 1), (1, xi k)]) (st' := []) rfl ?_
              refine ex_st 2 (pc' := 16) (ls' := [(3, xi 1), (2, xi 0), (0, xi 1), (1, xi k)]) (st' := [xi k, xi 0]) rfl ?_
              refine ex_ic rfl (by decide) (by first | omega | (constructor <;> omega) | assumption) (fun (h3 : ¬ ((0 : Int)) = k) => ?_) (fun (h3 : ¬ ¬ ((0 : Int)) = k) => ?_)
              · refine ex_st 2 (pc' := 25) (ls' := [(3, xi 1), (2, xi 0), (0, xi 1), (1, xi k)]) (st' := [xi 0, xr 1001]) rfl ?_
                refine ex_cald (v := -1) (j := 0) rfl (by decide) rfl (by decide) (by decide) (by decide) (rfl) ?_
                refine ex_st 5 (pc' := 7) (ls' := [(3, xi 2), (2, xi (-1)), (0, xi 1), (1, xi k)]) (st' := [xi 7, xi 2]) rfl ?_
                refine ex_st 1 (pc' := 10) (ls' := [(3, xi 2), (2, xi (-1)), (0, xi 1), (1, xi k)]) (st' := []) rfl ?_
                refine ex_st 1 (pc' := 11) (ls' := [(3, xi 2), (2, xi (-1)), (0, xi 1), (1, xi k)]) (st' := [xi (-1)]) rfl ?_
                refine ex_st 1 (pc' := 33) (ls' := [(3, xi 2), (2, xi (-1)), (0, xi 1), (1, xi k)]) (st' := []) rfl ?_
                refine ex_st 1 (pc' := 34) (ls' := [(3, xi 2), (2, xi (-1)), (0, xi 1), (1, xi k)]) (st' := [xi 0]) rfl ?_
                refine ex_retz rfl (Or.inl rfl) rfl ?_
                refine ex_st 1 (pc' := 46) (ls' := [(3, xi 1), (0, xr 0), (1, xi (↑n)), (2, xi k)]) (st' := []) rfl ?_
                refine ex_st 1 (pc' := 48) (ls' := [(3, xi 1), (0, xr 0), (1, xi (↑n)), (2, xi k)]) (st' := [xi (-12)]) rfl ?_
                refine ex_reti rfl rfl ?_
                refine x_CQ.of (M := xM_m_taken) rfl (Nat.le_of_ble_eq_true rfl) ?_
                refine ex_st 4 (pc' := 5) (ls' := [(0, xr 143), (1, xi (↑n)), (2, xi k)]) (st' := [xi 6, xi 0, xi k, xr 143]) rfl ?_
                refine ex_call (ct_m_in (by first | omega | (constructor <;> omega) | assumption) (by first | omega | (constructor <;> omega) | assumption) (by first | omega | (constructor <;> omega) | assumption)) (by decide) rfl ⟨rfl, rfl, rfl⟩ ⟨Nat.le_of_ble_eq_true rfl, rfl, rfl⟩ (Nat.le_of_ble_eq_true rfl) rfl ?_
                refine ex_bne rfl (fun h4 => ?_) (fun h4 => ?_)
                · refine ex_st 2 (pc' := 16) (ls' := [(0, xr 143), (1, xi (↑n)), (2, xi k)]) (st' := [xi (↑n), xr 143]) rfl ?_
                  refine ex_call (ct_m_isOfficial2 (c := I 143 0) (by first | omega | (constructor <;> omega) | assumption | ((repeat rw [x_up_far (by omega)]); first | rfl | omega | (constructor <;> omega))) (by (repeat rw [x_up_far (by omega)]); try rfl) (by first | omega | (constructor <;> omega) | assumption | ((repeat rw [x_up_far (by omega)]); first | rfl | omega | (constructor <;> omega)))) (by decide) rfl ⟨rfl, rfl, rfl⟩ ⟨Nat.le_of_ble_eq_true rfl, rfl, rfl⟩ (Nat.le_of_ble_eq_true rfl) rfl ?_
                  refine ex_bne rfl (fun h5 => ?_) (fun h5 => ?_)
                  · refine ex_st 3 (pc' := 30) (ls' := [(0, xr 143), (1, xi (↑n)), (2, xi k)]) (st' := [xi (↑n), xr 144]) rfl ?_
                    refine ex_iald (j := n) rfl (by decide) (rfl : xSH[144]? = some _) (by omega) (by omega) (by decide) ?_
                    rw [hq]
                    refine ex_st 2 (pc' := 33) (ls' := [(3, xi 1), (0, xr 143), (1, xi (↑n)), (2, xi k)]) (st' := [xi k]) rfl ?_
                    refine ex_if rfl (by first | omega | (constructor <;> omega) | assumption) (fun (h6 : k = 0) => ?_) (fun (h6 : ¬ k = 0) => ?_)
                    · exfalso; omega
                    · refine ex_st 2 (pc' := 38) (ls' := [(3, xi 1), (0, xr 143), (1, xi (↑n)), (2, xi k)]) (st' := [xi k, xi 1]) rfl ?_
                      refine ex_ic rfl (by decide) (by first | omega | (constructor <;> omega) | assumption) (fun (h7 : ((1 : Int)) = k) => ?_) (fun (h7 : ¬ ((1 : Int)) = k) => ?_)
                      · exfalso; omega
                      · refine ex_st 2 (pc' := 43) (ls' := [(3, xi 1), (0, xr 143), (1, xi (↑n)), (2, xi k)]) (st' := [xi 1, xi k]) rfl ?_
                        refine ex_ic rfl (by first | omega | (constructor <;> omega) | assumption) (by decide) (fun (h8 : ¬ k = 1) => ?_) (fun (h8 : ¬ ¬ k = 1) => ?_)
                        · refine ex_st 2 (pc' := 53) (ls' := [(3, xi 1), (0, xr 143), (1, xi (↑n)), (2, xi k)]) (st' := [xi 2, xi k]) rfl ?_
                          refine ex_ic rfl (by first | omega | (constructor <;> omega) | assumption) (by decide) (fun (h9 : ¬ k = 2) => ?_) (fun (h9 : ¬ ¬ k = 2) => ?_)
                          · refine ex_st 2 (pc' := 63) (ls' := [(3, xi 1), (0, xr 143), (1, xi (↑n)), (2, xi k)]) (st' := [xi 3, xi k]) rfl ?_
                            refine ex_ic rfl (by first | omega | (constructor <;> omega) | assumption) (by decide) (fun (h10 : ¬ k = 3) => ?_) (fun (h10 : ¬ ¬ k = 3) => ?_)
                            · refine ex_st 1 (pc' := 78) (ls' := [(3, xi 1), (0, xr 143), (1, xi (↑n)), (2, xi k)]) (st' := [xi (-12)]) rfl ?_
                              refine ex_reti rfl rfl ?_
                              exact ⟨x_req (by first | rfl | omega), _, _, rfl, hR⟩
                            · refine ex_st 2 (pc' := 69) (ls' := [(3, xi 1), (0, xr 143), (1, xi (↑n)), (2, xi k)]) (st' := [xi 6, xi 1]) rfl ?_
                              refine ex_st 1 (pc' := 76) (ls' := [(3, xi 1), (0, xr 143), (1, xi (↑n)), (2, xi k)]) (st' := []) rfl ?_
                              refine ex_st 1 (pc' := 78) (ls' := [(3, xi 1), (0, xr 143), (1, xi (↑n)), (2, xi k)]) (st' := [xi (-12)]) rfl ?_
                              refine ex_reti rfl rfl ?_
                              exact ⟨x_req (by first | rfl | omega), _, _, rfl, hR⟩
                          · refine ex_st 2 (pc' := 58) (ls' := [(3, xi 1), (0, xr 143), (1, xi (↑n)), (2, xi k)]) (st' := [xi 5, xi 1]) rfl ?_
                            refine ex_st 1 (pc' := 61) (ls' := [(3, xi 1), (0, xr 143), (1, xi (↑n)), (2, xi k)]) (st' := []) rfl ?_
                            refine ex_st 2 (pc' := 63) (ls' := [(3, xi 1), (0, xr 143), (1, xi (↑n)), (2, xi k)]) (st' := [xi 3, xi k]) rfl ?_
                            refine ex_ic rfl (by first | omega | (constructor <;> omega) | assumption) (by decide) (fun (h11 : ¬ k = 3) => ?_) (fun (h11 : ¬ ¬ k = 3) => ?_)
                            · refine ex_st 1 (pc' := 78) (ls' := [(3, xi 1), (0, xr 143), (1, xi (↑n)), (2, xi k)]) (st' := [xi (-12)]) rfl ?_
                              refine ex_reti rfl rfl ?_
                              exact ⟨x_req (by first | rfl | omega), _, _, rfl, hR⟩
                            · exfalso; omega
                        · exfalso; omega
                  · exfalso; omega
                · exfalso; omega
              · refine ex_st 1 (pc' := 20) (ls' := [(3, xi 1), (2, xi 0), (0, xi 1), (1, xi k)]) (st' := [xi 1]) rfl ?_
                refine ex_retz rfl (Or.inr rfl) rfl ?_
                refine ex_st 1 (pc' := 42) (ls' := [(3, xi 1), (0, xr 0), (1, xi (↑n)), (2, xi k)]) (st' := []) rfl ?_
                refine ex_st 2 (pc' := 48) (ls' := [(3, xi 1), (0, xr 0), (1, xi (↑n)), (2, xi k)]) (st' := [xi 1]) rfl ?_
                refine ex_reti rfl rfl ?_
                refine x_CQ.of (M := xM_m_taken) rfl (Nat.le_of_ble_eq_true rfl) ?_
                refine ex_st 4 (pc' := 5) (ls' := [(0, xr 143), (1, xi (↑n)), (2, xi k)]) (st' := [xi 6, xi 0, xi k, xr 143]) rfl ?_
                refine ex_call (ct_m_in (by first | omega | (constructor <;> omega) | assumption) (by first | omega | (constructor <;> omega) | assumption) (by first | omega | (constructor <;> omega) | assumption)) (by decide) rfl ⟨rfl, rfl, rfl⟩ ⟨Nat.le_of_ble_eq_true rfl, rfl, rfl⟩ (Nat.le_of_ble_eq_true rfl) rfl ?_
                refine ex_bne rfl (fun h12 => ?_) (fun h12 => ?_)
                · refine ex_st 2 (pc' := 16) (ls' := [(0, xr 143), (1, xi (↑n)), (2, xi k)]) (st' := [xi (↑n), xr 143]) rfl ?_
                  refine ex_call (ct_m_isOfficial2 (c := I 143 0) (by first | omega | (constructor <;> omega) | assumption | ((repeat rw [x_up_far (by omega)]); first | rfl | omega | (constructor <;> omega))) (by (repeat rw [x_up_far (by omega)]); try rfl) (by first | omega | (constructor <;> omega) | assumption | ((repeat rw [x_up_far (by omega)]); first | rfl | omega | (constructor <;> omega)))) (by decide) rfl ⟨rfl, rfl, rfl⟩ ⟨Nat.le_of_ble_eq_true rfl, rfl, rfl⟩ (Nat.le_of_ble_eq_true rfl) rfl ?_
                  refine ex_bne rfl (fun h13 => ?_) (fun h13 => ?_)
                  · refine ex_st 3 (pc' := 30) (ls' := [(0, xr 143), (1, xi (↑n)), (2, xi k)]) (st' := [xi (↑n), xr 144]) rfl ?_
                    refine ex_iald (j := n) rfl (by decide) (rfl : xSH[144]? = some _) (by omega) (by omega) (by decide) ?_
                    rw [hq]
                    refine ex_st 2 (pc' := 33) (ls' := [(3, xi 1), (0, xr 143), (1, xi (↑n)), (2, xi k)]) (st' := [xi k]) rfl ?_
                    refine ex_if rfl (by first | omega | (constructor <;> omega) | assumption) (fun (h14 : k = 0) => ?_) (fun (h14 : ¬ k = 0) => ?_)
                    · refine ex_st 2 (pc' := 78) (ls' := [(3, xi 1), (0, xr 143), (1, xi (↑n)), (2, xi k)]) (st' := [xi 1]) rfl ?_
                      refine ex_reti rfl rfl ?_
                      exact ⟨x_req (by first | rfl | omega), _, _, rfl, hR⟩
                    · exfalso; omega
                  · exfalso; omega
                · exfalso; omega
            · refine ex_st 1 (pc' := 20) (ls' := [(3, xi 0), (2, xi 1), (0, xi 1), (1, xi k)]) (st' := [xi 1]) rfl ?_
              refine ex_retz rfl (Or.inr rfl) rfl ?_
              refine ex_st 1 (pc' := 42) (ls' := [(3, xi 1), (0, xr 0), (1, xi (↑n)), (2, xi k)]) (st' := []) rfl ?_
              refine ex_st 2 (pc' := 48) (ls' := [(3, xi 1), (0, xr 0), (1, xi (↑n)), (2, xi k)]) (st' := [xi 1]) rfl ?_
              refine ex_reti rfl rfl ?_
              refine x_CQ.of (M := xM_m_taken) rfl (Nat.le_of_ble_eq_true rfl) ?_
              refine ex_st 4 (pc' := 5) (ls' := [(0, xr 143), (1, xi (↑n)), (2, xi k)]) (st' := [xi 6, xi 0, xi k, xr 143]) rfl ?_
              refine ex_call (ct_m_in (by first | omega | (constructor <;> omega) | assumption) (by first | omega | (constructor <;> omega) | assumption) (by first | omega | (constructor <;> omega) | assumption)) (by decide) rfl ⟨rfl, rfl, rfl⟩ ⟨Nat.le_of_ble_eq_true rfl, rfl, rfl⟩ (Nat.le_of_ble_eq_true rfl) rfl ?_
              refine ex_bne rfl (fun h15 => ?_) (fun h15 => ?_)
              · refine ex_st 2 (pc' := 16) (ls' := [(0, xr 143), (1, xi (↑n)), (2, xi k)]) (st' := [xi (↑n), xr 143]) rfl ?_
                refine ex_call (ct_m_isOfficial2 (c := I 143 0) (by first | omega | (constructor <;> omega) | assumption | ((repeat rw [x_up_far (by omega)]); first | rfl | omega | (constructor <;> omega))) (by (repeat rw [x_up_far (by omega)]); try rfl) (by first | omega | (constructor <;> omega) | assumption | ((repeat rw [x_up_far (by omega)]); first | rfl | omega | (constructor <;> omega)))) (by decide) rfl ⟨rfl, rfl, rfl⟩ ⟨Nat.le_of_ble_eq_true rfl, rfl, rfl⟩ (Nat.le_of_ble_eq_true rfl) rfl ?_
                refine ex_bne rfl (fun h16 => ?_) (fun h16 => ?_)
                · refine ex_st 3 (pc' := 30) (ls' := [(0, xr 143), (1, xi (↑n)), (2, xi k)]) (st' := [xi (↑n), xr 144]) rfl ?_
                  refine ex_iald (j := n) rfl (by decide) (rfl : xSH[144]? = some _) (by omega) (by omega) (by decide) ?_
                  rw [hq]
                  refine ex_st 2 (pc' := 33) (ls' := [(3, xi 1), (0, xr 143), (1, xi (↑n)), (2, xi k)]) (st' := [xi k]) rfl ?_
                  refine ex_if rfl (by first | omega | (constructor <;> omega) | assumption) (fun (h17 : k = 0) => ?_) (fun (h17 : ¬ k = 0) => ?_)
                  · exfalso; omega
                  · refine ex_st 2 (pc' := 38) (ls' := [(3, xi 1), (0, xr 143), (1, xi (↑n)), (2, xi k)]) (st' := [xi k, xi 1]) rfl ?_
                    refine ex_ic rfl (by decide) (by first | omega | (constructor <;> omega) | assumption) (fun (h18 : ((1 : Int)) = k) => ?_) (fun (h18 : ¬ ((1 : Int)) = k) => ?_)
                    · refine ex_st 2 (pc' := 78) (ls' := [(3, xi 1), (0, xr 143), (1, xi (↑n)), (2, xi k)]) (st' := [xi 1]) rfl ?_
                      refine ex_reti rfl rfl ?_
                      exact ⟨x_req (by first | rfl | omega), _, _, rfl, hR⟩
                    · exfalso; omega
                · exfalso; omega
              · exfalso; omega
          · exfalso; omega
        · exfalso; omega
      · skip
        have hq : I 144 n = 2 := hq
        have hq2 : I (11 + 3 * n) 0 = 2 := hq2
        refine x_CQ.of (M := xM_G_taken) rfl (Nat.le_of_ble_eq_true rfl) ?_
        refine ex_st 1 (pc' := 1) (ls' := [(0, xr 0), (1, xi (↑n)), (2, xi k)]) (st' := [xi k]) rfl ?_
        refine ex_call (ct_G_isKind (by first | omega | (constructor <;> omega) | assumption)) (by decide) rfl ⟨rfl, rfl, rfl⟩ ⟨Nat.le_of_ble_eq_true rfl, rfl, rfl⟩ (Nat.le_of_ble_eq_true rfl) rfl ?_
        refine ex_bne rfl (fun h0 => ?_) (fun h0 => ?_)
        · refine ex_st 2 (pc' := 12) (ls' := [(0, xr 0), (1, xi (↑n)), (2, xi k)]) (st' := [xi (↑n), xr 0]) rfl ?_
          refine ex_call (ct_G_isOfficial2 (c := I 1 1) (by first | omega | (constructor <;> omega) | assumption | ((repeat rw [x_up_far (by omega)]); first | rfl | omega | (constructor <;> omega))) (by (repeat rw [x_up_far (by omega)]); try rfl) (by first | omega | (constructor <;> omega) | assumption | ((repeat rw [x_up_far (by omega)]); first | rfl | omega | (constructor <;> omega)))) (by decide) rfl ⟨rfl, rfl, rfl⟩ ⟨Nat.le_of_ble_eq_true rfl, rfl, rfl⟩ (Nat.le_of_ble_eq_true rfl) rfl ?_
          refine ex_bne rfl (fun h1 => ?_) (fun h1 => ?_)
          · refine ex_st 4 (pc' := 29) (ls' := [(0, xr 0), (1, xi (↑n)), (2, xi k)]) (st' := [xi (↑n), xr 2]) rfl ?_
            refine ex_aald (q := 11 + 3 * n) (j := n) rfl (by decide) (rfl : xSH[2]? = some _) (by decide) (by omega) (by omega) (by decide) (x_aa2 n (by omega)) (by omega) ?_
            refine ex_gfi rfl (by omega) (x_so1 n (by omega)).1 (by decide) (by decide) rfl ?_
            rw [hq2]
            refine ex_st 3 (pc' := 36) (ls' := [(3, xi 2), (0, xr 0), (1, xi (↑n)), (2, xi k)]) (st' := [xi k, xi 2]) rfl ?_
            refine ex_inl (M' := xM_G_isKindUnder) (as := [xi 2, xi k]) (rest := []) (D' := 28) rfl (Nat.le_of_ble_eq_true rfl) (by decide) rfl ⟨rfl, rfl, rfl⟩ ⟨Nat.le_of_ble_eq_true rfl, rfl, rfl⟩ (Nat.le_of_ble_eq_true rfl) rfl ?_
            refine ex_st 6 (pc' := 7) (ls' := [(3, xi 0), (2, xi 2), (0, xi 2), (1, xi k)]) (st' := [xi 7, xi 0]) rfl ?_
            refine ex_st 1 (pc' := 10) (ls' := [(3, xi 0), (2, xi 2), (0, xi 2), (1, xi k)]) (st' := []) rfl ?_
            refine ex_st 1 (pc' := 11) (ls' := [(3, xi 0), (2, xi 2), (0, xi 2), (1, xi k)]) (st' := [xi 2]) rfl ?_
            refine ex_st 1 (pc' := 14) (ls' := [(3, xi 0), (2, xi 2), (0, xi 2), (1, xi k)]) (st' := []) rfl ?_
            refine ex_st 2 (pc' := 16) (ls' := [(3, xi 0), (2, xi 2), (0, xi 2), (1, xi k)]) (st' := [xi k, xi 2]) rfl ?_
            refine ex_ic rfl (by decide) (by first | omega | (constructor <;> omega) | assumption) (fun (h2 : ¬ ((2 : Int)) = k) => ?_) (fun (h2 : ¬ ¬ ((2 : Int)) = k) => ?_)
            · refine ex_st 2 (pc' := 25) (ls' := [(3, xi 0), (2, xi 2), (0, xi 2), (1, xi k)]) (st' := [xi 2, xr 1001]) rfl ?_
              refine ex_cald (v := 0) (j := 2) rfl (by decide) rfl (by decide) (by decide) (by decide) (rfl) ?_
              refine ex_st 5 (pc' := 7) (ls' := [(3, xi 1), (2, xi 0), (0, xi 2), (1, xi k)]) (st' := [xi 7, xi 1]) rfl ?_
              refine ex_st 1 (pc' := 10) (ls' := [(3, xi 1), (2, xi 0), (0, xi 2), (1, xi k)]) (st' := []) rfl ?_
              refine ex_st 1 (pc' := 11) (ls' := [(3, xi 1), (2, xi 0), (0, xi 2), (1, xi k)]) (st' := [xi 0]) rfl ?_
              refine ex_st 1 (pc' := 14) (ls' := [(3, xi 1), (2, xi 0), (0, xi 2), (1, xi k)]) (st' := []) rfl ?_
              refine ex_st 2 (pc' := 16) (ls' := [(3, xi 1), (2, xi 0), (0, xi 2), (1, xi k)]) (st' := [xi k, xi 0]) rfl ?_
              refine ex_ic rfl (by decide) (by first | omega | (constructor <;> omega) | assumption) (fun (h3 : ¬ ((0 : Int)) = k) => ?_) (fun (h3 : ¬ ¬ ((0 : Int)) = k) => ?_)
              · refine ex_st 2 (pc' := 25) (ls' := [(3, xi 1), (2, xi 0), (0, xi 2), (1, xi k)]) (st' := [xi 0, xr 1001]) rfl ?_
                refine ex_cald (v := -1) (j := 0) rfl (by decide) rfl (by decide) (by decide) (by decide) (rfl) ?_
                refine ex_st 5 (pc' := 7) (ls' := [(3, xi 2), (2, xi (-1)), (0, xi 2), (1, xi k)]) (st' := [xi 7, xi 2]) rfl ?_
                refine ex_st 1 (pc' := 10) (ls' := [(3, xi 2), (2, xi (-1)), (0, xi 2), (1, xi k)]) (st' := []) rfl ?_
                refine ex_st 1 (pc' := 11) (ls' := [(3, xi 2), (2, xi (-1)), (0, xi 2), (1, xi k)]) (st' := [xi (-1)]) rfl ?_
                refine ex_st 1 (pc' := 33) (ls' := [(3, xi 2), (2, xi (-1)), (0, xi 2), (1, xi k)]) (st' := []) rfl ?_
                refine ex_st 1 (pc' := 34) (ls' := [(3, xi 2), (2, xi (-1)), (0, xi 2), (1, xi k)]) (st' := [xi 0]) rfl ?_
                refine ex_retz rfl (Or.inl rfl) rfl ?_
                refine ex_st 1 (pc' := 46) (ls' := [(3, xi 2), (0, xr 0), (1, xi (↑n)), (2, xi k)]) (st' := []) rfl ?_
                refine ex_st 1 (pc' := 48) (ls' := [(3, xi 2), (0, xr 0), (1, xi (↑n)), (2, xi k)]) (st' := [xi (-12)]) rfl ?_
                refine ex_reti rfl rfl ?_
                refine x_CQ.of (M := xM_m_taken) rfl (Nat.le_of_ble_eq_true rfl) ?_
                refine ex_st 4 (pc' := 5) (ls' := [(0, xr 143), (1, xi (↑n)), (2, xi k)]) (st' := [xi 6, xi 0, xi k, xr 143]) rfl ?_
                refine ex_call (ct_m_in (by first | omega | (constructor <;> omega) | assumption) (by first | omega | (constructor <;> omega) | assumption) (by first | omega | (constructor <;> omega) | assumption)) (by decide) rfl ⟨rfl, rfl, rfl⟩ ⟨Nat.le_of_ble_eq_true rfl, rfl, rfl⟩ (Nat.le_of_ble_eq_true rfl) rfl ?_
                refine ex_bne rfl (fun h4 => ?_) (fun h4 => ?_)
                · refine ex_st 2 (pc' := 16) (ls' := [(0, xr 143), (1, xi (↑n)), (2, xi k)]) (st' := [xi (↑n), xr 143]) rfl ?_
                  refine ex_call (ct_m_isOfficial2 (c := I 143 0) (by first | omega | (constructor <;> omega) | assumption | ((repeat rw [x_up_far (by omega)]); first | rfl | omega | (constructor <;> omega))) (by (repeat rw [x_up_far (by omega)]); try rfl) (by first | omega | (constructor <;> omega) | assumption | ((repeat rw [x_up_far (by omega)]); first | rfl | omega | (constructor <;> omega)))) (by decide) rfl ⟨rfl, rfl, rfl⟩ ⟨Nat.le_of_ble_eq_true rfl, rfl, rfl⟩ (Nat.le_of_ble_eq_true rfl) rfl ?_
                  refine ex_bne rfl (fun h5 => ?_) (fun h5 => ?_)
                  · refine ex_st 3 (pc' := 30) (ls' := [(0, xr 143), (1, xi (↑n)), (2, xi k)]) (st' := [xi (↑n), xr 144]) rfl ?_
                    refine ex_iald (j := n) rfl (by decide) (rfl : xSH[144]? = some _) (by omega) (by omega) (by decide) ?_
                    rw [hq]
                    refine ex_st 2 (pc' := 33) (ls' := [(3, xi 2), (0, xr 143), (1, xi (↑n)), (2, xi k)]) (st' := [xi k]) rfl ?_
                    refine ex_if rfl (by first | omega | (constructor <;> omega) | assumption) (fun (h6 : k = 0) => ?_) (fun (h6 : ¬ k = 0) => ?_)
                    · exfalso; omega
                    · refine ex_st 2 (pc' := 38) (ls' := [(3, xi 2), (0, xr 143), (1, xi (↑n)), (2, xi k)]) (st' := [xi k, xi 2]) rfl ?_
                      refine ex_ic rfl (by decide) (by first | omega | (constructor <;> omega) | assumption) (fun (h7 : ((2 : Int)) = k) => ?_) (fun (h7 : ¬ ((2 : Int)) = k) => ?_)
                      · exfalso; omega
                      · refine ex_st 2 (pc' := 43) (ls' := [(3, xi 2), (0, xr 143), (1, xi (↑n)), (2, xi k)]) (st' := [xi 1, xi k]) rfl ?_
                        refine ex_ic rfl (by first | omega | (constructor <;> omega) | assumption) (by decide) (fun (h8 : ¬ k = 1) => ?_) (fun (h8 : ¬ ¬ k = 1) => ?_)
                        · refine ex_st 2 (pc' := 53) (ls' := [(3, xi 2), (0, xr 143), (1, xi (↑n)), (2, xi k)]) (st' := [xi 2, xi k]) rfl ?_
                          refine ex_ic rfl (by first | omega | (constructor <;> omega) | assumption) (by decide) (fun (h9 : ¬ k = 2) => ?_) (fun (h9 : ¬ ¬ k = 2) => ?_)
                          · refine ex_st 2 (pc' := 63) (ls' := [(3, xi 2), (0, xr 143), (1, xi (↑n)), (2, xi k)]) (st' := [xi 3, xi k]) rfl ?_
                            refine ex_ic rfl (by first | omega | (constructor <;> omega) | assumption) (by decide) (fun (h10 : ¬ k = 3) => ?_) (fun (h10 : ¬ ¬ k = 3) => ?_)
                            · refine ex_st 1 (pc' := 78) (ls' := [(3, xi 2), (0, xr 143), (1, xi (↑n)), (2, xi k)]) (st' := [xi (-12)]) rfl ?_
                              refine ex_reti rfl rfl ?_
                              exact ⟨x_req (by first | rfl | omega), _, _, rfl, hR⟩
                            · refine ex_st 2 (pc' := 69) (ls' := [(3, xi 2), (0, xr 143), (1, xi (↑n)), (2, xi k)]) (st' := [xi 6, xi 2]) rfl ?_
                              refine ex_st 1 (pc' := 76) (ls' := [(3, xi 2), (0, xr 143), (1, xi (↑n)), (2, xi k)]) (st' := []) rfl ?_
                              refine ex_st 1 (pc' := 78) (ls' := [(3, xi 2), (0, xr 143), (1, xi (↑n)), (2, xi k)]) (st' := [xi (-12)]) rfl ?_
                              refine ex_reti rfl rfl ?_
                              exact ⟨x_req (by first | rfl | omega), _, _, rfl, hR⟩
                          · exfalso; omega
                        · refine ex_st 2 (pc' := 48) (ls' := [(3, xi 2), (0, xr 143), (1, xi (↑n)), (2, xi k)]) (st' := [xi 4, xi 2]) rfl ?_
                          refine ex_st 1 (pc' := 51) (ls' := [(3, xi 2), (0, xr 143), (1, xi (↑n)), (2, xi k)]) (st' := []) rfl ?_
                          refine ex_st 2 (pc' := 53) (ls' := [(3, xi 2), (0, xr 143), (1, xi (↑n)), (2, xi k)]) (st' := [xi 2, xi k]) rfl ?_
                          refine ex_ic rfl (by first | omega | (constructor <;> omega) | assumption) (by decide) (fun (h11 : ¬ k = 2) => ?_) (fun (h11 : ¬ ¬ k = 2) => ?_)
                          · refine ex_st 2 (pc' := 63) (ls' := [(3, xi 2), (0, xr 143), (1, xi (↑n)), (2, xi k)]) (st' := [xi 3, xi k]) rfl ?_
                            refine ex_ic rfl (by first | omega | (constructor <;> omega) | assumption) (by decide) (fun (h12 : ¬ k = 3) => ?_) (fun (h12 : ¬ ¬ k = 3) => ?_)
                            · refine ex_st 1 (pc' := 78) (ls' := [(3, xi 2), (0, xr 143), (1, xi (↑n)), (2, xi k)]) (st' := [xi (-12)]) rfl ?_
                              refine ex_reti rfl rfl ?_
                              exact ⟨x_req (by first | rfl | omega), _, _, rfl, hR⟩
                            · exfalso; omega
                          · exfalso; omega
                  · exfalso; omega
                · exfalso; omega
              · refine ex_st 1 (pc' := 20) (ls' := [(3, xi 1), (2, xi 0), (0, xi 2), (1, xi k)]) (st' := [xi 1]) rfl ?_
                refine ex_retz rfl (Or.inr rfl) rfl ?_
                refine ex_st 1 (pc' := 42) (ls' := [(3, xi 2), (0, xr 0), (1, xi (↑n)), (2, xi k)]) (st' := []) rfl ?_
                refine ex_st 2 (pc' := 48) (ls' := [(3, xi 2), (0, xr 0), (1, xi (↑n)), (2, xi k)]) (st' := [xi 2]) rfl ?_
                refine ex_reti rfl rfl ?_
                refine x_CQ.of (M := xM_m_taken) rfl (Nat.le_of_ble_eq_true rfl) ?_
                refine ex_st 4 (pc' := 5) (ls' := [(0, xr 143), (1, xi (↑n)), (2, xi k)]) (st' := [xi 6, xi 0, xi k, xr 143]) rfl ?_
                refine ex_call (ct_m_in (by first | omega | (constructor <;> omega) | assumption) (by first | omega | (constructor <;> omega) | assumption) (by first | omega | (constructor <;> omega) | assumption)) (by decide) rfl ⟨rfl, rfl, rfl⟩ ⟨Nat.le_of_ble_eq_true rfl, rfl, rfl⟩ (Nat.le_of_ble_eq_true rfl) rfl ?_
                refine ex_bne rfl (fun h13 => ?_) (fun h13 => ?_)
                · refine ex_st 2 (pc' := 16) (ls' := [(0, xr 143), (1, xi (↑n)), (2, xi k)]) (st' := [xi (↑n), xr 143]) rfl ?_
                  refine ex_call (ct_m_isOfficial2 (c := I 143 0) (by first | omega | (constructor <;> omega) | assumption | ((repeat rw [x_up_far (by omega)]); first | rfl | omega | (constructor <;> omega))) (by (repeat rw [x_up_far (by omega)]); try rfl) (by first | omega | (constructor <;> omega) | assumption | ((repeat rw [x_up_far (by omega)]); first | rfl | omega | (constructor <;> omega)))) (by decide) rfl ⟨rfl, rfl, rfl⟩ ⟨Nat.le_of_ble_eq_true rfl, rfl, rfl⟩ (Nat.le_of_ble_eq_true rfl) rfl ?_
                  refine ex_bne rfl (fun h14 => ?_) (fun h14 => ?_)
                  · refine ex_st 3 (pc' := 30) (ls' := [(0, xr 143), (1, xi (↑n)), (2, xi k)]) (st' := [xi (↑n), xr 144]) rfl ?_
                    refine ex_iald (j := n) rfl (by decide) (rfl : xSH[144]? = some _) (by omega) (by omega) (by decide) ?_
                    rw [hq]
                    refine ex_st 2 (pc' := 33) (ls' := [(3, xi 2), (0, xr 143), (1, xi (↑n)), (2, xi k)]) (st' := [xi k]) rfl ?_
                    refine ex_if rfl (by first | omega | (constructor <;> omega) | assumption) (fun (h15 : k = 0) => ?_) (fun (h15 : ¬ k = 0) => ?_)
                    · refine ex_st 2 (pc' := 78) (ls' := [(3, xi 2), (0, xr 143), (1, xi (↑n)), (2, xi k)]) (st' := [xi 2]) rfl ?_
                      refine ex_reti rfl rfl ?_
                      exact ⟨x_req (by first | rfl | omega), _, _, rfl, hR⟩
                    · exfalso; omega
                  · exfalso; omega
                · exfalso; omega
            · refine ex_st 1 (pc' := 20) (ls' := [(3, xi 0), (2, xi 2), (0, xi 2), (1, xi k)]) (st' := [xi 1]) rfl ?_
              refine ex_retz rfl (Or.inr rfl) rfl ?_
              refine ex_st 1 (pc' := 42) (ls' := [(3, xi 2), (0, xr 0), (1, xi (↑n)), (2, xi k)]) (st' := []) rfl ?_
              refine ex_st 2 (pc' := 48) (ls' := [(3, xi 2), (0, xr 0), (1, xi (↑n)), (2, xi k)]) (st' := [xi 2]) rfl ?_
              refine ex_reti rfl rfl ?_
              refine x_CQ.of (M := xM_m_taken) rfl (Nat.le_of_ble_eq_true rfl) ?_
              refine ex_st 4 (pc' := 5) (ls' := [(0, xr 143), (1, xi (↑n)), (2, xi k)]) (st' := [xi 6, xi 0, xi k, xr 143]) rfl ?_
              refine ex_call (ct_m_in (by first | omega | (constructor <;> omega) | assumption) (by first | omega | (constructor <;> omega) | assumption) (by first | omega | (constructor <;> omega) | assumption)) (by decide) rfl ⟨rfl, rfl, rfl⟩ ⟨Nat.le_of_ble_eq_true rfl, rfl, rfl⟩ (Nat.le_of_ble_eq_true rfl) rfl ?_
              refine ex_bne rfl (fun h16 => ?_) (fun h16 => ?_)
              · refine ex_st 2 (pc' := 16) (ls' := [(0, xr 143), (1, xi (↑n)), (2, xi k)]) (st' := [xi (↑n), xr 143]) rfl ?_
                refine ex_call (ct_m_isOfficial2 (c := I 143 0) (by first | omega | (constructor <;> omega) | assumption | ((repeat rw [x_up_far (by omega)]); first | rfl | omega | (constructor <;> omega))) (by (repeat rw [x_up_far (by omega)]); try rfl) (by first | omega | (constructor <;> omega) | assumption | ((repeat rw [x_up_far (by omega)]); first | rfl | omega | (constructor <;> omega)))) (by decide) rfl ⟨rfl, rfl, rfl⟩ ⟨Nat.le_of_ble_eq_true rfl, rfl, rfl⟩ (Nat.le_of_ble_eq_true rfl) rfl ?_
                refine ex_bne rfl (fun h17 => ?_) (fun h17 => ?_)
                · refine ex_st 3 (pc' := 30) (ls' := [(0, xr 143), (1, xi (↑n)), (2, xi k)]) (st' := [xi (↑n), xr 144]) rfl ?_
                  refine ex_iald (j := n) rfl (by decide) (rfl : xSH[144]? = some _) (by omega) (by omega) (by decide) ?_
                  rw [hq]
                  refine ex_st 2 (pc' := 33) (ls' := [(3, xi 2), (0, xr 143), (1, xi (↑n)), (2, xi k)]) (st' := [xi k]) rfl ?_
                  refine ex_if rfl (by first | omega | (constructor <;> omega) | assumption) (fun (h18 : k = 0) => ?_) (fun (h18 : ¬ k = 0) => ?_)
                  · exfalso; omega
                  · refine ex_st 2 (pc' := 38) (ls' := [(3, xi 2), (0, xr 143), (1, xi (↑n)), (2, xi k)]) (st' := [xi k, xi 2]) rfl ?_
                    refine ex_ic rfl (by decide) (by first | omega | (constructor <;> omega) | assumption) (fun (h19 : ((2 : Int)) = k) => ?_) (fun (h19 : ¬ ((2 : Int)) = k) => ?_)
                    · refine ex_st 2 (pc' := 78) (ls' := [(3, xi 2), (0, xr 143), (1, xi (↑n)), (2, xi k)]) (st' := [xi 2]) rfl ?_
                      refine ex_reti rfl rfl ?_
                      exact ⟨x_req (by first | rfl | omega), _, _, rfl, hR⟩
                    · exfalso; omega
                · exfalso; omega
              · exfalso; omega
          · exfalso; omega
        · exfalso; omega
      · skip
        have hq : I 144 n = 3 := hq
        have hq2 : I (11 + 3 * n) 0 = 3 := hq2
        refine x_CQ.of (M := xM_G_taken) rfl (Nat.le_of_ble_eq_true rfl) ?_
        refine ex_st 1 (pc' := 1) (ls' := [(0, xr 0), (1, xi (↑n)), (2, xi k)]) (st' := [xi k]) rfl ?_
        refine ex_call (ct_G_isKind (by first | omega | (constructor <;> omega) | assumption)) (by decide) rfl ⟨rfl, rfl, rfl⟩ ⟨Nat.le_of_ble_eq_true rfl, rfl, rfl⟩ (Nat.le_of_ble_eq_true rfl) rfl ?_
        refine ex_bne rfl (fun h0 => ?_) (fun h0 => ?_)
        · refine ex_st 2 (pc' := 12) (ls' := [(0, xr 0), (1, xi (↑n)), (2, xi k)]) (st' := [xi (↑n), xr 0]) rfl ?_
          refine ex_call (ct_G_isOfficial2 (c := I 1 1) (by first | omega | (constructor <;> omega) | assumption | ((repeat rw [x_up_far (by omega)]); first | rfl | omega | (constructor <;> omega))) (by (repeat rw [x_up_far (by omega)]); try rfl) (by first | omega | (constructor <;> omega) | assumption | ((repeat rw [x_up_far (by omega)]); first | rfl | omega | (constructor <;> omega)))) (by decide) rfl ⟨rfl, rfl, rfl⟩ ⟨Nat.le_of_ble_eq_true rfl, rfl, rfl⟩ (Nat.le_of_ble_eq_true rfl) rfl ?_
          refine ex_bne rfl (fun h1 => ?_) (fun h1 => ?_)
          · refine ex_st 4 (pc' := 29) (ls' := [(0, xr 0), (1, xi (↑n)), (2, xi k)]) (st' := [xi (↑n), xr 2]) rfl ?_
            refine ex_aald (q := 11 + 3 * n) (j := n) rfl (by decide) (rfl : xSH[2]? = some _) (by decide) (by omega) (by omega) (by decide) (x_aa2 n (by omega)) (by omega) ?_
            refine ex_gfi rfl (by omega) (x_so1 n (by omega)).1 (by decide) (by decide) rfl ?_
            rw [hq2]
            refine ex_st 3 (pc' := 36) (ls' := [(3, xi 3), (0, xr 0), (1, xi (↑n)), (2, xi k)]) (st' := [xi k, xi 3]) rfl ?_
            refine ex_inl (M' := xM_G_isKindUnder) (as := [xi 3, xi k]) (rest := []) (D' := 28) rfl (Nat.le_of_ble_eq_true rfl) (by decide) rfl ⟨rfl, rfl, rfl⟩ ⟨Nat.le_of_ble_eq_true rfl, rfl, rfl⟩ (Nat.le_of_ble_eq_true rfl) rfl ?_
            refine ex_st 6 (pc' := 7) (ls' := [(3, xi 0), (2, xi 3), (0, xi 3), (1, xi k)]) (st' := [xi 7, xi 0]) rfl ?_
            refine ex_st 1 (pc' := 10) (ls' := [(3, xi 0), (2, xi 3), (0, xi 3), (1, xi k)]) (st' := []) rfl ?_
            refine ex_st 1 (pc' := 11) (ls' := [(3, xi 0), (2, xi 3), (0, xi 3), (1, xi k)]) (st' := [xi 3]) rfl ?_
            refine ex_st 1 (pc' := 14) (ls' := [(3, xi 0), (2, xi 3), (0, xi 3), (1, xi k)]) (st' := []) rfl ?_
            refine ex_st 2 (pc' := 16) (ls' := [(3, xi 0), (2, xi 3), (0, xi 3), (1, xi k)]) (st' := [xi k, xi 3]) rfl ?_
            refine ex_ic rfl (by decide) (by first | omega | (constructor <;> omega) | assumption) (fun (h2 : ¬ ((3 : Int)) = k) => ?_) (fun (h2 : ¬ ¬ ((3 : Int)) = k) => ?_)
            · refine ex_st 2 (pc' := 25) (ls' := [(3, xi 0), (2, xi 3), (0, xi 3), (1, xi k)]) (st' := [xi 3, xr 1001]) rfl ?_
              refine ex_cald (v := 0) (j := 3) rfl (by decide) rfl (by decide) (by decide) (by decide) (rfl) ?_
              refine ex_st 5 (pc' := 7) (ls' := [(3, xi 1), (2, xi 0), (0, xi 3), (1, xi k)]) (st' := [xi 7, xi 1]) rfl ?_
              refine ex_st 1 (pc' := 10) (ls' := [(3, xi 1), (2, xi 0), (0, xi 3), (1, xi k)]) (st' := []) rfl ?_
              refine ex_st 1 (pc' := 11) (ls' := [(3, xi 1), (2, xi 0), (0, xi 3), (1, xi k)]) (st' := [xi 0]) rfl ?_
              refine ex_st 1 (pc' := 14) (ls' := [(3, xi 1), (2, xi 0), (0, xi 3), (1, xi k)]) (st' := []) rfl ?_
              refine ex_st 2 (pc' := 16) (ls' := [(3, xi 1), (2, xi 0), (0, xi 3), (1, xi k)]) (st' := [xi k, xi 0]) rfl ?_
              refine ex_ic rfl (by decide) (by first | omega | (constructor <;> omega) | assumption) (fun (h3 : ¬ ((0 : Int)) = k) => ?_) (fun (h3 : ¬ ¬ ((0 : Int)) = k) => ?_)
              · refine ex_st 2 (pc' := 25) (ls' := [(3, xi 1), (2, xi 0), (0, xi 3), (1, xi k)]) (st' := [xi 0, xr 1001]) rfl ?_
                refine ex_cald (v := -1) (j := 0) rfl (by decide) rfl (by decide) (by decide) (by decide) (rfl) ?_
                refine ex_st 5 (pc' := 7) (ls' := [(3, xi 2), (2, xi (-1)), (0, xi 3), (1, xi k)]) (st' := [xi 7, xi 2]) rfl ?_
                refine ex_st 1 (pc' := 10) (ls' := [(3, xi 2), (2, xi (-1)), (0, xi 3), (1, xi k)]) (st' := []) rfl ?_
                refine ex_st 1 (pc' := 11) (ls' := [(3, xi 2), (2, xi (-1)), (0, xi 3), (1, xi k)]) (st' := [xi (-1)]) rfl ?_
                refine ex_st 1 (pc' := 33) (ls' := [(3, xi 2), (2, xi (-1)), (0, xi 3), (1, xi k)]) (st' := []) rfl ?_
                refine ex_st 1 (pc' := 34) (ls' := [(3, xi 2), (2, xi (-1)), (0, xi 3), (1, xi k)]) (st' := [xi 0]) rfl ?_
                refine ex_retz rfl (Or.inl rfl) rfl ?_
                refine ex_st 1 (pc' := 46) (ls' := [(3, xi 3), (0, xr 0), (1, xi (↑n)), (2, xi k)]) (st' := []) rfl ?_
                refine ex_st 1 (pc' := 48) (ls' := [(3, xi 3), (0, xr 0), (1, xi (↑n)), (2, xi k)]) (st' := [xi (-12)]) rfl ?_
                refine ex_reti rfl rfl ?_
                refine x_CQ.of (M := xM_m_taken) rfl (Nat.le_of_ble_eq_true rfl) ?_
                refine ex_st 4 (pc' := 5) (ls' := [(0, xr 143), (1, xi (↑n)), (2, xi k)]) (st' := [xi 6, xi 0, xi k, xr 143]) rfl ?_
                refine ex_call (ct_m_in (by first | omega | (constructor <;> omega) | assumption) (by first | omega | (constructor <;> omega) | assumption) (by first | omega | (constructor <;> omega) | assumption)) (by decide) rfl ⟨rfl, rfl, rfl⟩ ⟨Nat.le_of_ble_eq_true rfl, rfl, rfl⟩ (Nat.le_of_ble_eq_true rfl) rfl ?_
                refine ex_bne rfl (fun h4 => ?_) (fun h4 => ?_)
                · refine ex_st 2 (pc' := 16) (ls' := [(0, xr 143), (1, xi (↑n)), (2, xi k)]) (st' := [xi (↑n), xr 143]) rfl ?_
                  refine ex_call (ct_m_isOfficial2 (c := I 143 0) (by first | omega | (constructor <;> omega) | assumption | ((repeat rw [x_up_far (by omega)]); first | rfl | omega | (constructor <;> omega))) (by (repeat rw [x_up_far (by omega)]); try rfl) (by first | omega | (constructor <;> omega) | assumption | ((repeat rw [x_up_far (by omega)]); first | rfl | omega | (constructor <;> omega)))) (by decide) rfl ⟨rfl, rfl, rfl⟩ ⟨Nat.le_of_ble_eq_true rfl, rfl, rfl⟩ (Nat.le_of_ble_eq_true rfl) rfl ?_
                  refine ex_bne rfl (fun h5 => ?_) (fun h5 => ?_)
                  · refine ex_st 3 (pc' := 30) (ls' := [(0, xr 143), (1, xi (↑n)), (2, xi k)]) (st' := [xi (↑n), xr 144]) rfl ?_
                    refine ex_iald (j := n) rfl (by decide) (rfl : xSH[144]? = some _) (by omega) (by omega) (by decide) ?_
                    rw [hq]
                    refine ex_st 2 (pc' := 33) (ls' := [(3, xi 3), (0, xr 143), (1, xi (↑n)), (2, xi k)]) (st' := [xi k]) rfl ?_
                    refine ex_if rfl (by first | omega | (constructor <;> omega) | assumption) (fun (h6 : k = 0) => ?_) (fun (h6 : ¬ k = 0) => ?_)
                    · exfalso; omega
                    · refine ex_st 2 (pc' := 38) (ls' := [(3, xi 3), (0, xr 143), (1, xi (↑n)), (2, xi k)]) (st' := [xi k, xi 3]) rfl ?_
                      refine ex_ic rfl (by decide) (by first | omega | (constructor <;> omega) | assumption) (fun (h7 : ((3 : Int)) = k) => ?_) (fun (h7 : ¬ ((3 : Int)) = k) => ?_)
                      · exfalso; omega
                      · refine ex_st 2 (pc' := 43) (ls' := [(3, xi 3), (0, xr 143), (1, xi (↑n)), (2, xi k)]) (st' := [xi 1, xi k]) rfl ?_
                        refine ex_ic rfl (by first | omega | (constructor <;> omega) | assumption) (by decide) (fun (h8 : ¬ k = 1) => ?_) (fun (h8 : ¬ ¬ k = 1) => ?_)
                        · refine ex_st 2 (pc' := 53) (ls' := [(3, xi 3), (0, xr 143), (1, xi (↑n)), (2, xi k)]) (st' := [xi 2, xi k]) rfl ?_
                          refine ex_ic rfl (by first | omega | (constructor <;> omega) | assumption) (by decide) (fun (h9 : ¬ k = 2) => ?_) (fun (h9 : ¬ ¬ k = 2) => ?_)
                          · refine ex_st 2 (pc' := 63) (ls' := [(3, xi 3), (0, xr 143), (1, xi (↑n)), (2, xi k)]) (st' := [xi 3, xi k]) rfl ?_
                            refine ex_ic rfl (by first | omega | (constructor <;> omega) | assumption) (by decide) (fun (h10 : ¬ k = 3) => ?_) (fun (h10 : ¬ ¬ k = 3) => ?_)
                            · refine ex_st 1 (pc' := 78) (ls' := [(3, xi 3), (0, xr 143), (1, xi (↑n)), (2, xi k)]) (st' := [xi (-12)]) rfl ?_
                              refine ex_reti rfl rfl ?_
                              exact ⟨x_req (by first | rfl | omega), _, _, rfl, hR⟩
                            · exfalso; omega
                          · refine ex_st 2 (pc' := 58) (ls' := [(3, xi 3), (0, xr 143), (1, xi (↑n)), (2, xi k)]) (st' := [xi 5, xi 3]) rfl ?_
                            refine ex_st 1 (pc' := 61) (ls' := [(3, xi 3), (0, xr 143), (1, xi (↑n)), (2, xi k)]) (st' := []) rfl ?_
                            refine ex_st 2 (pc' := 63) (ls' := [(3, xi 3), (0, xr 143), (1, xi (↑n)), (2, xi k)]) (st' := [xi 3, xi k]) rfl ?_
                            refine ex_ic rfl (by first | omega | (constructor <;> omega) | assumption) (by decide) (fun (h11 : ¬ k = 3) => ?_) (fun (h11 : ¬ ¬ k = 3) => ?_)
                            · refine ex_st 1 (pc' := 78) (ls' := [(3, xi 3), (0, xr 143), (1, xi (↑n)), (2, xi k)]) (st' := [xi (-12)]) rfl ?_
                              refine ex_reti rfl rfl ?_
                              exact ⟨x_req (by first | rfl | omega), _, _, rfl, hR⟩
                            · exfalso; omega
                        · refine ex_st 2 (pc' := 48) (ls' := [(3, xi 3), (0, xr 143), (1, xi (↑n)), (2, xi k)]) (st' := [xi 4, xi 3]) rfl ?_
                          refine ex_st 1 (pc' := 51) (ls' := [(3, xi 3), (0, xr 143), (1, xi (↑n)), (2, xi k)]) (st' := []) rfl ?_
                          refine ex_st 2 (pc' := 53) (ls' := [(3, xi 3), (0, xr 143), (1, xi (↑n)), (2, xi k)]) (st' := [xi 2, xi k]) rfl ?_
                          refine ex_ic rfl (by first | omega | (constructor <;> omega) | assumption) (by decide) (fun (h12 : ¬ k = 2) => ?_) (fun (h12 : ¬ ¬ k = 2) => ?_)
                          · refine ex_st 2 (pc' := 63) (ls' := [(3, xi 3), (0, xr 143), (1, xi (↑n)), (2, xi k)]) (st' := [xi 3, xi k]) rfl ?_
                            refine ex_ic rfl (by first | omega | (constructor <;> omega) | assumption) (by decide) (fun (h13 : ¬ k = 3) => ?_) (fun (h13 : ¬ ¬ k = 3) => ?_)
                            · refine ex_st 1 (pc' := 78) (ls' := [(3, xi 3), (0, xr 143), (1, xi (↑n)), (2, xi k)]) (st' := [xi (-12)]) rfl ?_
                              refine ex_reti rfl rfl ?_
                              exact ⟨x_req (by first | rfl | omega), _, _, rfl, hR⟩
                            · exfalso; omega
                          · exfalso; omega
                  · exfalso; omega
                · exfalso; omega
              · refine ex_st 1 (pc' := 20) (ls' := [(3, xi 1), (2, xi 0), (0, xi 3), (1, xi k)]) (st' := [xi 1]) rfl ?_
                refine ex_retz rfl (Or.inr rfl) rfl ?_
                refine ex_st 1 (pc' := 42) (ls' := [(3, xi 3), (0, xr 0), (1, xi (↑n)), (2, xi k)]) (st' := []) rfl ?_
                refine ex_st 2 (pc' := 48) (ls' := [(3, xi 3), (0, xr 0), (1, xi (↑n)), (2, xi k)]) (st' := [xi 3]) rfl ?_
                refine ex_reti rfl rfl ?_
                refine x_CQ.of (M := xM_m_taken) rfl (Nat.le_of_ble_eq_true rfl) ?_
                refine ex_st 4 (pc' := 5) (ls' := [(0, xr 143), (1, xi (↑n)), (2, xi k)]) (st' := [xi 6, xi 0, xi k, xr 143]) rfl ?_
                refine ex_call (ct_m_in (by first | omega | (constructor <;> omega) | assumption) (by first | omega | (constructor <;> omega) | assumption) (by first | omega | (constructor <;> omega) | assumption)) (by decide) rfl ⟨rfl, rfl, rfl⟩ ⟨Nat.le_of_ble_eq_true rfl, rfl, rfl⟩ (Nat.le_of_ble_eq_true rfl) rfl ?_
                refine ex_bne rfl (fun h14 => ?_) (fun h14 => ?_)
                · refine ex_st 2 (pc' := 16) (ls' := [(0, xr 143), (1, xi (↑n)), (2, xi k)]) (st' := [xi (↑n), xr 143]) rfl ?_
                  refine ex_call (ct_m_isOfficial2 (c := I 143 0) (by first | omega | (constructor <;> omega) | assumption | ((repeat rw [x_up_far (by omega)]); first | rfl | omega | (constructor <;> omega))) (by (repeat rw [x_up_far (by omega)]); try rfl) (by first | omega | (constructor <;> omega) | assumption | ((repeat rw [x_up_far (by omega)]); first | rfl | omega | (constructor <;> omega)))) (by decide) rfl ⟨rfl, rfl, rfl⟩ ⟨Nat.le_of_ble_eq_true rfl, rfl, rfl⟩ (Nat.le_of_ble_eq_true rfl) rfl ?_
                  refine ex_bne rfl (fun h15 => ?_) (fun h15 => ?_)
                  · refine ex_st 3 (pc' := 30) (ls' := [(0, xr 143), (1, xi (↑n)), (2, xi k)]) (st' := [xi (↑n), xr 144]) rfl ?_
                    refine ex_iald (j := n) rfl (by decide) (rfl : xSH[144]? = some _) (by omega) (by omega) (by decide) ?_
                    rw [hq]
                    refine ex_st 2 (pc' := 33) (ls' := [(3, xi 3), (0, xr 143), (1, xi (↑n)), (2, xi k)]) (st' := [xi k]) rfl ?_
                    refine ex_if rfl (by first | omega | (constructor <;> omega) | assumption) (fun (h16 : k = 0) => ?_) (fun (h16 : ¬ k = 0) => ?_)
                    · refine ex_st 2 (pc' := 78) (ls' := [(3, xi 3), (0, xr 143), (1, xi (↑n)), (2, xi k)]) (st' := [xi 3]) rfl ?_
                      refine ex_reti rfl rfl ?_
                      exact ⟨x_req (by first | rfl | omega), _, _, rfl, hR⟩
                    · exfalso; omega
                  · exfalso; omega
                · exfalso; omega
            · refine ex_st 1 (pc' := 20) (ls' := [(3, xi 0), (2, xi 3), (0, xi 3), (1, xi k)]) (st' := [xi 1]) rfl ?_
              refine ex_retz rfl (Or.inr rfl) rfl ?_
              refine ex_st 1 (pc' := 42) (ls' := [(3, xi 3), (0, xr 0), (1, xi (↑n)), (2, xi k)]) (st' := []) rfl ?_
              refine ex_st 2 (pc' := 48) (ls' := [(3, xi 3), (0, xr 0), (1, xi (↑n)), (2, xi k)]) (st' := [xi 3]) rfl ?_
              refine ex_reti rfl rfl ?_
              refine x_CQ.of (M := xM_m_taken) rfl (Nat.le_of_ble_eq_true rfl) ?_
              refine ex_st 4 (pc' := 5) (ls' := [(0, xr 143), (1, xi (↑n)), (2, xi k)]) (st' := [xi 6, xi 0, xi k, xr 143]) rfl ?_
              refine ex_call (ct_m_in (by first | omega | (constructor <;> omega) | assumption) (by first | omega | (constructor <;> omega) | assumption) (by first | omega | (constructor <;> omega) | assumption)) (by decide) rfl ⟨rfl, rfl, rfl⟩ ⟨Nat.le_of_ble_eq_true rfl, rfl, rfl⟩ (Nat.le_of_ble_eq_true rfl) rfl ?_
              refine ex_bne rfl (fun h17 => ?_) (fun h17 => ?_)
              · refine ex_st 2 (pc' := 16) (ls' := [(0, xr 143), (1, xi (↑n)), (2, xi k)]) (st' := [xi (↑n), xr 143]) rfl ?_
                refine ex_call (ct_m_isOfficial2 (c := I 143 0) (by first | omega | (constructor <;> omega) | assumption | ((repeat rw [x_up_far (by omega)]); first | rfl | omega | (constructor <;> omega))) (by (repeat rw [x_up_far (by omega)]); try rfl) (by first | omega | (constructor <;> omega) | assumption | ((repeat rw [x_up_far (by omega)]); first | rfl | omega | (constructor <;> omega)))) (by decide) rfl ⟨rfl, rfl, rfl⟩ ⟨Nat.le_of_ble_eq_true rfl, rfl, rfl⟩ (Nat.le_of_ble_eq_true rfl) rfl ?_
                refine ex_bne rfl (fun h18 => ?_) (fun h18 => ?_)
                · refine ex_st 3 (pc' := 30) (ls' := [(0, xr 143), (1, xi (↑n)), (2, xi k)]) (st' := [xi (↑n), xr 144]) rfl ?_
                  refine ex_iald (j := n) rfl (by decide) (rfl : xSH[144]? = some _) (by omega) (by omega) (by decide) ?_
                  rw [hq]
                  refine ex_st 2 (pc' := 33) (ls' := [(3, xi 3), (0, xr 143), (1, xi (↑n)), (2, xi k)]) (st' := [xi k]) rfl ?_
                  refine ex_if rfl (by first | omega | (constructor <;> omega) | assumption) (fun (h19 : k = 0) => ?_) (fun (h19 : ¬ k = 0) => ?_)
                  · exfalso; omega
                  · refine ex_st 2 (pc' := 38) (ls' := [(3, xi 3), (0, xr 143), (1, xi (↑n)), (2, xi k)]) (st' := [xi k, xi 3]) rfl ?_
                    refine ex_ic rfl (by decide) (by first | omega | (constructor <;> omega) | assumption) (fun (h20 : ((3 : Int)) = k) => ?_) (fun (h20 : ¬ ((3 : Int)) = k) => ?_)
                    · refine ex_st 2 (pc' := 78) (ls' := [(3, xi 3), (0, xr 143), (1, xi (↑n)), (2, xi k)]) (st' := [xi 3]) rfl ?_
                      refine ex_reti rfl rfl ?_
                      exact ⟨x_req (by first | rfl | omega), _, _, rfl, hR⟩
                    · exfalso; omega
                · exfalso; omega
              · exfalso; omega
          · exfalso; omega
        · exfalso; omega
      · skip
        have hq : I 144 n = 4 := hq
        have hq2 : I (11 + 3 * n) 0 = 4 := hq2
        refine x_CQ.of (M := xM_G_taken) rfl (Nat.le_of_ble_eq_true rfl) ?_
        refine ex_st 1 (pc' := 1) (ls' := [(0, xr 0), (1, xi (↑n)), (2, xi k)]) (st' := [xi k]) rfl ?_
        refine ex_call (ct_G_isKind (by first | omega | (constructor <;> omega) | assumption)) (by decide) rfl ⟨rfl, rfl, rfl⟩ ⟨Nat.le_of_ble_eq_true rfl, rfl, rfl⟩ (Nat.le_of_ble_eq_true rfl) rfl ?_
        refine ex_bne rfl (fun h0 => ?_) (fun h0 => ?_)
        · refine ex_st 2 (pc' := 12) (ls' := [(0, xr 0), (1, xi (↑n)), (2, xi k)]) (st' := [xi (↑n), xr 0]) rfl ?_
          refine ex_call (ct_G_isOfficial2 (c := I 1 1) (by first | omega | (constructor <;> omega) | assumption | ((repeat rw [x_up_far (by omega)]); first | rfl | omega | (constructor <;> omega))) (by (repeat rw [x_up_far (by omega)]); try rfl) (by first | omega | (constructor <;> omega) | assumption | ((repeat rw [x_up_far (by omega)]); first | rfl | omega | (constructor <;> omega)))) (by decide) rfl ⟨rfl, rfl, rfl⟩ ⟨Nat.le_of_ble_eq_true rfl, rfl, rfl⟩ (Nat.le_of_ble_eq_true rfl) rfl ?_
          refine ex_bne rfl (fun h1 => ?_) (fun h1 => ?_)
          · refine ex_st 4 (pc' := 29) (ls' := [(0, xr 0), (1, xi (↑n)), (2, xi k)]) (st' := [xi (↑n), xr 2]) rfl ?_
            refine ex_aald (q := 11 + 3 * n) (j := n) rfl (by decide) (rfl : xSH[2]? = some _) (by decide) (by omega) (by omega) (by decide) (x_aa2 n (by omega)) (by omega) ?_
            refine ex_gfi rfl (by omega) (x_so1 n (by omega)).1 (by decide) (by decide) rfl ?_
            rw [hq2]
            refine ex_st 3 (pc' := 36) (ls' := [(3, xi 4), (0, xr 0), (1, xi (↑n)), (2, xi k)]) (st' := [xi k, xi 4]) rfl ?_
            refine ex_inl (M' := xM_G_isKindUnder) (as := [xi 4, xi k]) (rest := []) (D' := 28) rfl (Nat.le_of_ble_eq_true rfl) (by decide) rfl ⟨rfl, rfl, rfl⟩ ⟨Nat.le_of_ble_eq_true rfl, rfl, rfl⟩ (Nat.le_of_ble_eq_true rfl) rfl ?_
            refine ex_st 6 (pc' := 7) (ls' := [(3, xi 0), (2, xi 4), (0, xi 4), (1, xi k)]) (st' := [xi 7, xi 0]) rfl ?_
            refine ex_st 1 (pc' := 10) (ls' := [(3, xi 0), (2, xi 4), (0, xi 4), (1, xi k)]) (st' := []) rfl ?_
            refine ex_st 1 (pc' := 11) (ls' := [(3, xi 0), (2, xi 4), (0, xi 4), (1, xi k)]) (st' := [xi 4]) rfl ?_
            refine ex_st 1 (pc' := 14) (ls' := [(3, xi 0), (2, xi 4), (0, xi 4), (1, xi k)]) (st' := []) rfl ?_
            refine ex_st 2 (pc' := 16) (ls' := [(3, xi 0), (2, xi 4), (0, xi 4), (1, xi k)]) (st' := [xi k, xi 4]) rfl ?_
            refine ex_ic rfl (by decide) (by first | omega | (constructor <;> omega) | assumption) (fun (h2 : ¬ ((4 : Int)) = k) => ?_) (fun (h2 : ¬ ¬ ((4 : Int)) = k) => ?_)
            · refine ex_st 2 (pc' := 25) (ls' := [(3, xi 0), (2, xi 4), (0, xi 4), (1, xi k)]) (st' := [xi 4, xr 1001]) rfl ?_
              refine ex_cald (v := 1) (j := 4) rfl (by decide) rfl (by decide) (by decide) (by decide) (rfl) ?_
              refine ex_st 5 (pc' := 7) (ls' := [(3, xi 1), (2, xi 1), (0, xi 4), (1, xi k)]) (st' := [xi 7, xi 1]) rfl ?_
              refine ex_st 1 (pc' := 10) (ls' := [(3, xi 1), (2, xi 1), (0, xi 4), (1, xi k)]) (st' := []) rfl ?_
              refine ex_st 1 (pc' := 11) (ls' := [(3, xi 1), (2, xi 1), (0, xi 4), (1, xi k)]) (st' := [xi 1]) rfl ?_
              refine ex_st 1 (pc' := 14) (ls' := [(3, xi 1), (2, xi 1), (0, xi 4), (1, xi k)]) (st' := []) rfl ?_
              refine ex_st 2 (pc' := 16) (ls' := [(3, xi 1), (2, xi 1), (0, xi 4), (1, xi k)]) (st' := [xi k, xi 1]) rfl ?_
              refine ex_ic rfl (by decide) (by first | omega | (constructor <;> omega) | assumption) (fun (h3 : ¬ ((1 : Int)) = k) => ?_) (fun (h3 : ¬ ¬ ((1 : Int)) = k) => ?_)
              · refine ex_st 2 (pc' := 25) (ls' := [(3, xi 1), (2, xi 1), (0, xi 4), (1, xi k)]) (st' := [xi 1, xr 1001]) rfl ?_
                refine ex_cald (v := 0) (j := 1) rfl (by decide) rfl (by decide) (by decide) (by decide) (rfl) ?_
                refine ex_st 5 (pc' := 7) (ls' := [(3, xi 2), (2, xi 0), (0, xi 4), (1, xi k)]) (st' := [xi 7, xi 2]) rfl ?_
                refine ex_st 1 (pc' := 10) (ls' := [(3, xi 2), (2, xi 0), (0, xi 4), (1, xi k)]) (st' := []) rfl ?_
                refine ex_st 1 (pc' := 11) (ls' := [(3, xi 2), (2, xi 0), (0, xi 4), (1, xi k)]) (st' := [xi 0]) rfl ?_
                refine ex_st 1 (pc' := 14) (ls' := [(3, xi 2), (2, xi 0), (0, xi 4), (1, xi k)]) (st' := []) rfl ?_
                refine ex_st 2 (pc' := 16) (ls' := [(3, xi 2), (2, xi 0), (0, xi 4), (1, xi k)]) (st' := [xi k, xi 0]) rfl ?_
                refine ex_ic rfl (by decide) (by first | omega | (constructor <;> omega) | assumption) (fun (h4 : ¬ ((0 : Int)) = k) => ?_) (fun (h4 : ¬ ¬ ((0 : Int)) = k) => ?_)
                · refine ex_st 2 (pc' := 25) (ls' := [(3, xi 2), (2, xi 0), (0, xi 4), (1, xi k)]) (st' := [xi 0, xr 1001]) rfl ?_
                  refine ex_cald (v := -1) (j := 0) rfl (by decide) rfl (by decide) (by decide) (by decide) (rfl) ?_
                  refine ex_st 5 (pc' := 7) (ls' := [(3, xi 3), (2, xi (-1)), (0, xi 4), (1, xi k)]) (st' := [xi 7, xi 3]) rfl ?_
                  refine ex_st 1 (pc' := 10) (ls' := [(3, xi 3), (2, xi (-1)), (0, xi 4), (1, xi k)]) (st' := []) rfl ?_
                  refine ex_st 1 (pc' := 11) (ls' := [(3, xi 3), (2, xi (-1)), (0, xi 4), (1, xi k)]) (st' := [xi (-1)]) rfl ?_
                  refine ex_st 1 (pc' := 33) (ls' := [(3, xi 3), (2, xi (-1)), (0, xi 4), (1, xi k)]) (st' := []) rfl ?_
                  refine ex_st 1 (pc' := 34) (ls' := [(3, xi 3), (2, xi (-1)), (0, xi 4), (1, xi k)]) (st' := [xi 0]) rfl ?_
                  refine ex_retz rfl (Or.inl rfl) rfl ?_
                  refine ex_st 1 (pc' := 46) (ls' := [(3, xi 4), (0, xr 0), (1, xi (↑n)), (2, xi k)]) (st' := []) rfl ?_
                  refine ex_st 1 (pc' := 48) (ls' := [(3, xi 4), (0, xr 0), (1, xi (↑n)), (2, xi k)]) (st' := [xi (-12)]) rfl ?_
                  refine ex_reti rfl rfl ?_
                  refine x_CQ.of (M := xM_m_taken) rfl (Nat.le_of_ble_eq_true rfl) ?_
                  refine ex_st 4 (pc' := 5) (ls' := [(0, xr 143), (1, xi (↑n)), (2, xi k)]) (st' := [xi 6, xi 0, xi k, xr 143]) rfl ?_
                  refine ex_call (ct_m_in (by first | omega | (constructor <;> omega) | assumption) (by first | omega | (constructor <;> omega) | assumption) (by first | omega | (constructor <;> omega) | assumption)) (by decide) rfl ⟨rfl, rfl, rfl⟩ ⟨Nat.le_of_ble_eq_true rfl, rfl, rfl⟩ (Nat.le_of_ble_eq_true rfl) rfl ?_
                  refine ex_bne rfl (fun h5 => ?_) (fun h5 => ?_)
                  · refine ex_st 2 (pc' := 16) (ls' := [(0, xr 143), (1, xi (↑n)), (2, xi k)]) (st' := [xi (↑n), xr 143]) rfl ?_
                    refine ex_call (ct_m_isOfficial2 (c := I 143 0) (by first | omega | (constructor <;> omega) | assumption | ((repeat rw [x_up_far (by omega)]); first | rfl | omega | (constructor <;> omega))) (by (repeat rw [x_up_far (by omega)]); try rfl) (by first | omega | (constructor <;> omega) | assumption | ((repeat rw [x_up_far (by omega)]); first | rfl | omega | (constructor <;> omega)))) (by decide) rfl ⟨rfl, rfl, rfl⟩ ⟨Nat.le_of_ble_eq_true rfl, rfl, rfl⟩ (Nat.le_of_ble_eq_true rfl) rfl ?_
                    refine ex_bne rfl (fun h6 => ?_) (fun h6 => ?_)
                    · refine ex_st 3 (pc' := 30) (ls' := [(0, xr 143), (1, xi (↑n)), (2, xi k)]) (st' := [xi (↑n), xr 144]) rfl ?_
                      refine ex_iald (j := n) rfl (by decide) (rfl : xSH[144]? = some _) (by omega) (by omega) (by decide) ?_
                      rw [hq]
                      refine ex_st 2 (pc' := 33) (ls' := [(3, xi 4), (0, xr 143), (1, xi (↑n)), (2, xi k)]) (st' := [xi k]) rfl ?_
                      refine ex_if rfl (by first | omega | (constructor <;> omega) | assumption) (fun (h7 : k = 0) => ?_) (fun (h7 : ¬ k = 0) => ?_)
                      · exfalso; omega
                      · refine ex_st 2 (pc' := 38) (ls' := [(3, xi 4), (0, xr 143), (1, xi (↑n)), (2, xi k)]) (st' := [xi k, xi 4]) rfl ?_
                        refine ex_ic rfl (by decide) (by first | omega | (constructor <;> omega) | assumption) (fun (h8 : ((4 : Int)) = k) => ?_) (fun (h8 : ¬ ((4 : Int)) = k) => ?_)
                        · exfalso; omega
                        · refine ex_st 2 (pc' := 43) (ls' := [(3, xi 4), (0, xr 143), (1, xi (↑n)), (2, xi k)]) (st' := [xi 1, xi k]) rfl ?_
                          refine ex_ic rfl (by first | omega | (constructor <;> omega) | assumption) (by decide) (fun (h9 : ¬ k = 1) => ?_) (fun (h9 : ¬ ¬ k = 1) => ?_)
                          · refine ex_st 2 (pc' := 53) (ls' := [(3, xi 4), (0, xr 143), (1, xi (↑n)), (2, xi k)]) (st' := [xi 2, xi k]) rfl ?_
                            refine ex_ic rfl (by first | omega | (constructor <;> omega) | assumption) (by decide) (fun (h10 : ¬ k = 2) => ?_) (fun (h10 : ¬ ¬ k = 2) => ?_)
                            · refine ex_st 2 (pc' := 63) (ls' := [(3, xi 4), (0, xr 143), (1, xi (↑n)), (2, xi k)]) (st' := [xi 3, xi k]) rfl ?_
                              refine ex_ic rfl (by first | omega | (constructor <;> omega) | assumption) (by decide) (fun (h11 : ¬ k = 3) => ?_) (fun (h11 : ¬ ¬ k = 3) => ?_)
                              · refine ex_st 1 (pc' := 78) (ls' := [(3, xi 4), (0, xr 143), (1, xi (↑n)), (2, xi k)]) (st' := [xi (-12)]) rfl ?_
                                refine ex_reti rfl rfl ?_
                                exact ⟨x_req (by first | rfl | omega), _, _, rfl, hR⟩
                              · refine ex_st 2 (pc' := 69) (ls' := [(3, xi 4), (0, xr 143), (1, xi (↑n)), (2, xi k)]) (st' := [xi 6, xi 4]) rfl ?_
                                refine ex_st 1 (pc' := 76) (ls' := [(3, xi 4), (0, xr 143), (1, xi (↑n)), (2, xi k)]) (st' := []) rfl ?_
                                refine ex_st 1 (pc' := 78) (ls' := [(3, xi 4), (0, xr 143), (1, xi (↑n)), (2, xi k)]) (st' := [xi (-12)]) rfl ?_
                                refine ex_reti rfl rfl ?_
                                exact ⟨x_req (by first | rfl | omega), _, _, rfl, hR⟩
                            · refine ex_st 2 (pc' := 58) (ls' := [(3, xi 4), (0, xr 143), (1, xi (↑n)), (2, xi k)]) (st' := [xi 5, xi 4]) rfl ?_
                              refine ex_st 1 (pc' := 61) (ls' := [(3, xi 4), (0, xr 143), (1, xi (↑n)), (2, xi k)]) (st' := []) rfl ?_
                              refine ex_st 2 (pc' := 63) (ls' := [(3, xi 4), (0, xr 143), (1, xi (↑n)), (2, xi k)]) (st' := [xi 3, xi k]) rfl ?_
                              refine ex_ic rfl (by first | omega | (constructor <;> omega) | assumption) (by decide) (fun (h12 : ¬ k = 3) => ?_) (fun (h12 : ¬ ¬ k = 3) => ?_)
                              · refine ex_st 1 (pc' := 78) (ls' := [(3, xi 4), (0, xr 143), (1, xi (↑n)), (2, xi k)]) (st' := [xi (-12)]) rfl ?_
                                refine ex_reti rfl rfl ?_
                                exact ⟨x_req (by first | rfl | omega), _, _, rfl, hR⟩
                              · exfalso; omega
                          · exfalso; omega
                    · exfalso; omega
                  · exfalso; omega
                · refine ex_st 1 (pc' := 20) (ls' := [(3, xi 2), (2, xi 0), (0, xi 4), (1, xi k)]) (st' := [xi 1]) rfl ?_
                  refine ex_retz rfl (Or.inr rfl) rfl ?_
                  refine ex_st 1 (pc' := 42) (ls' := [(3, xi 4), (0, xr 0), (1, xi (↑n)), (2, xi k)]) (st' := []) rfl ?_
                  refine ex_st 2 (pc' := 48) (ls' := [(3, xi 4), (0, xr 0), (1, xi (↑n)), (2, xi k)]) (st' := [xi 4]) rfl ?_
                  refine ex_reti rfl rfl ?_
                  refine x_CQ.of (M := xM_m_taken) rfl (Nat.le_of_ble_eq_true rfl) ?_
                  refine ex_st 4 (pc' := 5) (ls' := [(0, xr 143), (1, xi (↑n)), (2, xi k)]) (st' := [xi 6, xi 0, xi k, xr 143]) rfl ?_
                  refine ex_call (ct_m_in (by first | omega | (constructor <;> omega) | assumption) (by first | omega | (constructor <;> omega) | assumption) (by first | omega | (constructor <;> omega) | assumption)) (by decide) rfl ⟨rfl, rfl, rfl⟩ ⟨Nat.le_of_ble_eq_true rfl, rfl, rfl⟩ (Nat.le_of_ble_eq_true rfl) rfl ?_
                  refine ex_bne rfl (fun h13 => ?_) (fun h13 => ?_)
                  · refine ex_st 2 (pc' := 16) (ls' := [(0, xr 143), (1, xi (↑n)), (2, xi k)]) (st' := [xi (↑n), xr 143]) rfl ?_
                    refine ex_call (ct_m_isOfficial2 (c := I 143 0) (by first | omega | (constructor <;> omega) | assumption | ((repeat rw [x_up_far (by omega)]); first | rfl | omega | (constructor <;> omega))) (by (repeat rw [x_up_far (by omega)]); try rfl) (by first | omega | (constructor <;> omega) | assumption | ((repeat rw [x_up_far (by omega)]); first | rfl | omega | (constructor <;> omega)))) (by decide) rfl ⟨rfl, rfl, rfl⟩ ⟨Nat.le_of_ble_eq_true rfl, rfl, rfl⟩ (Nat.le_of_ble_eq_true rfl) rfl ?_
                    refine ex_bne rfl (fun h14 => ?_) (fun h14 => ?_)
                    · refine ex_st 3 (pc' := 30) (ls' := [(0, xr 143), (1, xi (↑n)), (2, xi k)]) (st' := [xi (↑n), xr 144]) rfl ?_
                      refine ex_iald (j := n) rfl (by decide) (rfl : xSH[144]? = some _) (by omega) (by omega) (by decide) ?_
                      rw [hq]
                      refine ex_st 2 (pc' := 33) (ls' := [(3, xi 4), (0, xr 143), (1, xi (↑n)), (2, xi k)]) (st' := [xi k]) rfl ?_
                      refine ex_if rfl (by first | omega | (constructor <;> omega) | assumption) (fun (h15 : k = 0) => ?_) (fun (h15 : ¬ k = 0) => ?_)
                      · refine ex_st 2 (pc' := 78) (ls' := [(3, xi 4), (0, xr 143), (1, xi (↑n)), (2, xi k)]) (st' := [xi 4]) rfl ?_
                        refine ex_reti rfl rfl ?_
                        exact ⟨x_req (by first | rfl | omega), _, _, rfl, hR⟩
                      · exfalso; omega
                    · exfalso; omega
                  · exfalso; omega
              · refine ex_st 1 (pc' := 20) (ls' := [(3, xi 1), (2, xi 1), (0, xi 4), (1, xi k)]) (st' := [xi 1]) rfl ?_
                refine ex_retz rfl (Or.inr rfl) rfl ?_
                refine ex_st 1 (pc' := 42) (ls' := [(3, xi 4), (0, xr 0), (1, xi (↑n)), (2, xi k)]) (st' := []) rfl ?_
                refine ex_st 2 (pc' := 48) (ls' := [(3, xi 4), (0, xr 0), (1, xi (↑n)), (2, xi k)]) (st' := [xi 4]) rfl ?_
                refine ex_reti rfl rfl ?_
                refine x_CQ.of (M := xM_m_taken) rfl (Nat.le_of_ble_eq_true rfl) ?_
                refine ex_st 4 (pc' := 5) (ls' := [(0, xr 143), (1, xi (↑n)), (2, xi k)]) (st' := [xi 6, xi 0, xi k, xr 143]) rfl ?_
                refine ex_call (ct_m_in (by first | omega | (constructor <;> omega) | assumption) (by first | omega | (constructor <;> omega) | assumption) (by first | omega | (constructor <;> omega) | assumption)) (by decide) rfl ⟨rfl, rfl, rfl⟩ ⟨Nat.le_of_ble_eq_true rfl, rfl, rfl⟩ (Nat.le_of_ble_eq_true rfl) rfl ?_
                refine ex_bne rfl (fun h16 => ?_) (fun h16 => ?_)
                · refine ex_st 2 (pc' := 16) (ls' := [(0, xr 143), (1, xi (↑n)), (2, xi k)]) (st' := [xi (↑n), xr 143]) rfl ?_
                  refine ex_call (ct_m_isOfficial2 (c := I 143 0) (by first | omega | (constructor <;> omega) | assumption | ((repeat rw [x_up_far (by omega)]); first | rfl | omega | (constructor <;> omega))) (by (repeat rw [x_up_far (by omega)]); try rfl) (by first | omega | (constructor <;> omega) | assumption | ((repeat rw [x_up_far (by omega)]); first | rfl | omega | (constructor <;> omega)))) (by decide) rfl ⟨rfl, rfl, rfl⟩ ⟨Nat.le_of_ble_eq_true rfl, rfl, rfl⟩ (Nat.le_of_ble_eq_true rfl) rfl ?_
                  refine ex_bne rfl (fun h17 => ?_) (fun h17 => ?_)
                  · refine ex_st 3 (pc' := 30) (ls' := [(0, xr 143), (1, xi (↑n)), (2, xi k)]) (st' := [xi (↑n), xr 144]) rfl ?_
                    refine ex_iald (j := n) rfl (by decide) (rfl : xSH[144]? = some _) (by omega) (by omega) (by decide) ?_
                    rw [hq]
                    refine ex_st 2 (pc' := 33) (ls' := [(3, xi 4), (0, xr 143), (1, xi (↑n)), (2, xi k)]) (st' := [xi k]) rfl ?_
                    refine ex_if rfl (by first | omega | (constructor <;> omega) | assumption) (fun (h18 : k = 0) => ?_) (fun (h18 : ¬ k = 0) => ?_)
                    · exfalso; omega
                    · refine ex_st 2 (pc' := 38) (ls' := [(3, xi 4), (0, xr 143), (1, xi (↑n)), (2, xi k)]) (st' := [xi k, xi 4]) rfl ?_
                      refine ex_ic rfl (by decide) (by first | omega | (constructor <;> omega) | assumption) (fun (h19 : ((4 : Int)) = k) => ?_) (fun (h19 : ¬ ((4 : Int)) = k) => ?_)
                      · exfalso; omega
                      · refine ex_st 2 (pc' := 43) (ls' := [(3, xi 4), (0, xr 143), (1, xi (↑n)), (2, xi k)]) (st' := [xi 1, xi k]) rfl ?_
                        refine ex_ic rfl (by first | omega | (constructor <;> omega) | assumption) (by decide) (fun (h20 : ¬ k = 1) => ?_) (fun (h20 : ¬ ¬ k = 1) => ?_)
                        · exfalso; omega
                        · refine ex_st 2 (pc' := 48) (ls' := [(3, xi 4), (0, xr 143), (1, xi (↑n)), (2, xi k)]) (st' := [xi 4, xi 4]) rfl ?_
                          refine ex_st 1 (pc' := 72) (ls' := [(3, xi 4), (0, xr 143), (1, xi (↑n)), (2, xi k)]) (st' := []) rfl ?_
                          refine ex_st 2 (pc' := 78) (ls' := [(3, xi 4), (0, xr 143), (1, xi (↑n)), (2, xi k)]) (st' := [xi 4]) rfl ?_
                          refine ex_reti rfl rfl ?_
                          exact ⟨x_req (by first | rfl | omega), _, _, rfl, hR⟩
                  · exfalso; omega
                · exfalso; omega
            · refine ex_st 1 (pc' := 20) (ls' := [(3, xi 0), (2, xi 4), (0, xi 4), (1, xi k)]) (st' := [xi 1]) rfl ?_
              refine ex_retz rfl (Or.inr rfl) rfl ?_
              refine ex_st 1 (pc' := 42) (ls' := [(3, xi 4), (0, xr 0), (1, xi (↑n)), (2, xi k)]) (st' := []) rfl ?_
              refine ex_st 2 (pc' := 48) (ls' := [(3, xi 4), (0, xr 0), (1, xi (↑n)), (2, xi k)]) (st' := [xi 4]) rfl ?_
              refine ex_reti rfl rfl ?_
              refine x_CQ.of (M := xM_m_taken) rfl (Nat.le_of_ble_eq_true rfl) ?_
              refine ex_st 4 (pc' := 5) (ls' := [(0, xr 143), (1, xi (↑n)), (2, xi k)]) (st' := [xi 6, xi 0, xi k, xr 143]) rfl ?_
              refine ex_call (ct_m_in (by first | omega | (constructor <;> omega) | assumption) (by first | omega | (constructor <;> omega) | assumption) (by first | omega | (constructor <;> omega) | assumption)) (by decide) rfl ⟨rfl, rfl, rfl⟩ ⟨Nat.le_of_ble_eq_true rfl, rfl, rfl⟩ (Nat.le_of_ble_eq_true rfl) rfl ?_
              refine ex_bne rfl (fun h21 => ?_) (fun h21 => ?_)
              · refine ex_st 2 (pc' := 16) (ls' := [(0, xr 143), (1, xi (↑n)), (2, xi k)]) (st' := [xi (↑n), xr 143]) rfl ?_
                refine ex_call (ct_m_isOfficial2 (c := I 143 0) (by first | omega | (constructor <;> omega) | assumption | ((repeat rw [x_up_far (by omega)]); first | rfl | omega | (constructor <;> omega))) (by (repeat rw [x_up_far (by omega)]); try rfl) (by first | omega | (constructor <;> omega) | assumption | ((repeat rw [x_up_far (by omega)]); first | rfl | omega | (constructor <;> omega)))) (by decide) rfl ⟨rfl, rfl, rfl⟩ ⟨Nat.le_of_ble_eq_true rfl, rfl, rfl⟩ (Nat.le_of_ble_eq_true rfl) rfl ?_
                refine ex_bne rfl (fun h22 => ?_) (fun h22 => ?_)
                · refine ex_st 3 (pc' := 30) (ls' := [(0, xr 143), (1, xi (↑n)), (2, xi k)]) (st' := [xi (↑n), xr 144]) rfl ?_
                  refine ex_iald (j := n) rfl (by decide) (rfl : xSH[144]? = some _) (by omega) (by omega) (by decide) ?_
                  rw [hq]
                  refine ex_st 2 (pc' := 33) (ls' := [(3, xi 4), (0, xr 143), (1, xi (↑n)), (2, xi k)]) (st' := [xi k]) rfl ?_
                  refine ex_if rfl (by first | omega | (constructor <;> omega) | assumption) (fun (h23 : k = 0) => ?_) (fun (h23 : ¬ k = 0) => ?_)
                  · exfalso; omega
                  · refine ex_st 2 (pc' := 38) (ls' := [(3, xi 4), (0, xr 143), (1, xi (↑n)), (2, xi k)]) (st' := [xi k, xi 4]) rfl ?_
                    refine ex_ic rfl (by decide) (by first | omega | (constructor <;> omega) | assumption) (fun (h24 : ((4 : Int)) = k) => ?_) (fun (h24 : ¬ ((4 : Int)) = k) => ?_)
                    · refine ex_st 2 (pc' := 78) (ls' := [(3, xi 4), (0, xr 143), (1, xi (↑n)), (2, xi k)]) (st' := [xi 4]) rfl ?_
                      refine ex_reti rfl rfl ?_
                      exact ⟨x_req (by first | rfl | omega), _, _, rfl, hR⟩
                    · exfalso; omega
                · exfalso; omega
              · exfalso; omega
          · exfalso; omega
        · exfalso; omega
      · skip
        have hq : I 144 n = 5 := hq
        have hq2 : I (11 + 3 * n) 0 = 5 := hq2
        refine x_CQ.of (M := xM_G_taken) rfl (Nat.le_of_ble_eq_true rfl) ?_
        refine ex_st 1 (pc' := 1) (ls' := [(0, xr 0), (1, xi (↑n)), (2, xi k)]) (st' := [xi k]) rfl ?_
        refine ex_call (ct_G_isKind (by first | omega | (constructor <;> omega) | assumption)) (by decide) rfl ⟨rfl, rfl, rfl⟩ ⟨Nat.le_of_ble_eq_true rfl, rfl, rfl⟩ (Nat.le_of_ble_eq_true rfl) rfl ?_
        refine ex_bne rfl (fun h0 => ?_) (fun h0 => ?_)
        · refine ex_st 2 (pc' := 12) (ls' := [(0, xr 0), (1, xi (↑n)), (2, xi k)]) (st' := [xi (↑n), xr 0]) rfl ?_
          refine ex_call (ct_G_isOfficial2 (c := I 1 1) (by first | omega | (constructor <;> omega) | assumption | ((repeat rw [x_up_far (by omega)]); first | rfl | omega | (constructor <;> omega))) (by (repeat rw [x_up_far (by omega)]); try rfl) (by first | omega | (constructor <;> omega) | assumption | ((repeat rw [x_up_far (by omega)]); first | rfl | omega | (constructor <;> omega)))) (by decide) rfl ⟨rfl, rfl, rfl⟩ ⟨Nat.le_of_ble_eq_true rfl, rfl, rfl⟩ (Nat.le_of_ble_eq_true rfl) rfl ?_
          refine ex_bne rfl (fun h1 => ?_) (fun h1 => ?_)
          · refine ex_st 4 (pc' := 29) (ls' := [(0, xr 0), (1, xi (↑n)), (2, xi k)]) (st' := [xi (↑n), xr 2]) rfl ?_
            refine ex_aald (q := 11 + 3 * n) (j := n) rfl (by decide) (rfl : xSH[2]? = some _) (by decide) (by omega) (by omega) (by decide) (x_aa2 n (by omega)) (by omega) ?_
            refine ex_gfi rfl (by omega) (x_so1 n (by omega)).1 (by decide) (by decide) rfl ?_
            rw [hq2]
            refine ex_st 3 (pc' := 36) (ls' := [(3, xi 5), (0, xr 0), (1, xi (↑n)), (2, xi k)]) (st' := [xi k, xi 5]) rfl ?_
            refine ex_inl (M' := xM_G_isKindUnder) (as := [xi 5, xi k]) (rest := []) (D' := 28) rfl (Nat.le_of_ble_eq_true rfl) (by decide) rfl ⟨rfl, rfl, rfl⟩ ⟨Nat.le_of_ble_eq_true rfl, rfl, rfl⟩ (Nat.le_of_ble_eq_true rfl) rfl ?_
            refine ex_st 6 (pc' := 7) (ls' := [(3, xi 0), (2, xi 5), (0, xi 5), (1, xi k)]) (st' := [xi 7, xi 0]) rfl ?_
            refine ex_st 1 (pc' := 10) (ls' := [(3, xi 0), (2, xi 5), (0, xi 5), (1, xi k)]) (st' := []) rfl ?_
            refine ex_st 1 (pc' := 11) (ls' := [(3, xi 0), (2, xi 5), (0, xi 5), (1, xi k)]) (st' := [xi 5]) rfl ?_
            refine ex_st 1 (pc' := 14) (ls' := [(3, xi 0), (2, xi 5), (0, xi 5), (1, xi k)]) (st' := []) rfl ?_
            refine ex_st 2 (pc' := 16) (ls' := [(3, xi 0), (2, xi 5), (0, xi 5), (1, xi k)]) (st' := [xi k, xi 5]) rfl ?_
            refine ex_ic rfl (by decide) (by first | omega | (constructor <;> omega) | assumption) (fun (h2 : ¬ ((5 : Int)) = k) => ?_) (fun (h2 : ¬ ¬ ((5 : Int)) = k) => ?_)
            · refine ex_st 2 (pc' := 25) (ls' := [(3, xi 0), (2, xi 5), (0, xi 5), (1, xi k)]) (st' := [xi 5, xr 1001]) rfl ?_
              refine ex_cald (v := 2) (j := 5) rfl (by decide) rfl (by decide) (by decide) (by decide) (rfl) ?_
              refine ex_st 5 (pc' := 7) (ls' := [(3, xi 1), (2, xi 2), (0, xi 5), (1, xi k)]) (st' := [xi 7, xi 1]) rfl ?_
              refine ex_st 1 (pc' := 10) (ls' := [(3, xi 1), (2, xi 2), (0, xi 5), (1, xi k)]) (st' := []) rfl ?_
              refine ex_st 1 (pc' := 11) (ls' := [(3, xi 1), (2, xi 2), (0, xi 5), (1, xi k)]) (st' := [xi 2]) rfl ?_
              refine ex_st 1 (pc' := 14) (ls' := [(3, xi 1), (2, xi 2), (0, xi 5), (1, xi k)]) (st' := []) rfl ?_
              refine ex_st 2 (pc' := 16) (ls' := [(3, xi 1), (2, xi 2), (0, xi 5), (1, xi k)]) (st' := [xi k, xi 2]) rfl ?_
              refine ex_ic rfl (by decide) (by first | omega | (constructor <;> omega) | assumption) (fun (h3 : ¬ ((2 : Int)) = k) => ?_) (fun (h3 : ¬ ¬ ((2 : Int)) = k) => ?_)
              · refine ex_st 2 (pc' := 25) (ls' := [(3, xi 1), (2, xi 2), (0, xi 5), (1, xi k)]) (st' := [xi 2, xr 1001]) rfl ?_
                refine ex_cald (v := 0) (j := 2) rfl (by decide) rfl (by decide) (by decide) (by decide) (rfl) ?_
                refine ex_st 5 (pc' := 7) (ls' := [(3, xi 2), (2, xi 0), (0, xi 5), (1, xi k)]) (st' := [xi 7, xi 2]) rfl ?_
                refine ex_st 1 (pc' := 10) (ls' := [(3, xi 2), (2, xi 0), (0, xi 5), (1, xi k)]) (st' := []) rfl ?_
                refine ex_st 1 (pc' := 11) (ls' := [(3, xi 2), (2, xi 0), (0, xi 5), (1, xi k)]) (st' := [xi 0]) rfl ?_
                refine ex_st 1 (pc' := 14) (ls' := [(3, xi 2), (2, xi 0), (0, xi 5), (1, xi k)]) (st' := []) rfl ?_
                refine ex_st 2 (pc' := 16) (ls' := [(3, xi 2), (2, xi 0), (0, xi 5), (1, xi k)]) (st' := [xi k, xi 0]) rfl ?_
                refine ex_ic rfl (by decide) (by first | omega | (constructor <;> omega) | assumption) (fun (h4 : ¬ ((0 : Int)) = k) => ?_) (fun (h4 : ¬ ¬ ((0 : Int)) = k) => ?_)
                · refine ex_st 2 (pc' := 25) (ls' := [(3, xi 2), (2, xi 0), (0, xi 5), (1, xi k)]) (st' := [xi 0, xr 1001]) rfl ?_
                  refine ex_cald (v := -1) (j := 0) rfl (by decide) rfl (by decide) (by decide) (by decide) (rfl) ?_
                  refine ex_st 5 (pc' := 7) (ls' := [(3, xi 3), (2, xi (-1)), (0, xi 5), (1, xi k)]) (st' := [xi 7, xi 3]) rfl ?_
                  refine ex_st 1 (pc' := 10) (ls' := [(3, xi 3), (2, xi (-1)), (0, xi 5), (1, xi k)]) (st' := []) rfl ?_
                  refine ex_st 1 (pc' := 11) (ls' := [(3, xi 3), (2, xi (-1)), (0, xi 5), (1, xi k)]) (st' := [xi (-1)]) rfl ?_
                  refine ex_st 1 (pc' := 33) (ls' := [(3, xi 3), (2, xi (-1)), (0, xi 5), (1, xi k)]) (st' := []) rfl ?_
                  refine ex_st 1 (pc' := 34) (ls' := [(3, xi 3), (2, xi (-1)), (0, xi 5), (1, xi k)]) (st' := [xi 0]) rfl ?_
                  refine ex_retz rfl (Or.inl rfl) rfl ?_
                  refine ex_st 1 (pc' := 46) (ls' := [(3, xi 5), (0, xr 0), (1, xi (↑n)), (2, xi k)]) (st' := []) rfl ?_
                  refine ex_st 1 (pc' := 48) (ls' := [(3, xi 5), (0, xr 0), (1, xi (↑n)), (2, xi k)]) (st' := [xi (-12)]) rfl ?_
                  refine ex_reti rfl rfl ?_
                  refine x_CQ.of (M := xM_m_taken) rfl (Nat.le_of_ble_eq_true rfl) ?_
                  refine ex_st 4 (pc' := 5) (ls' := [(0, xr 143), (1, xi (↑n)), (2, xi k)]) (st' := [xi 6, xi 0, xi k, xr 143]) rfl ?_
                  refine ex_call (ct_m_in (by first | omega | (constructor <;> omega) | assumption) (by first | omega | (constructor <;> omega) | assumption) (by first | omega | (constructor <;> omega) | assumption)) (by decide) rfl ⟨rfl, rfl, rfl⟩ ⟨Nat.le_of_ble_eq_true rfl, rfl, rfl⟩ (Nat.le_of_ble_eq_true rfl) rfl ?_
                  refine ex_bne rfl (fun h5 => ?_) (fun h5 => ?_)
                  · refine ex_st 2 (pc' := 16) (ls' := [(0, xr 143), (1, xi (↑n)), (2, xi k)]) (st' := [xi (↑n), xr 143]) rfl ?_
                    refine ex_call (ct_m_isOfficial2 (c := I 143 0) (by first | omega | (constructor <;> omega) | assumption | ((repeat rw [x_up_far (by omega)]); first | rfl | omega | (constructor <;> omega))) (by (repeat rw [x_up_far (by omega)]); try rfl) (by first | omega | (constructor <;> omega) | assumption | ((repeat rw [x_up_far (by omega)]); first | rfl | omega | (constructor <;> omega)))) (by decide) rfl ⟨rfl, rfl, rfl⟩ ⟨Nat.le_of_ble_eq_true rfl, rfl, rfl⟩ (Nat.le_of_ble_eq_true rfl) rfl ?_
                    refine ex_bne rfl (fun h6 => ?_) (fun h6 => ?_)
                    · refine ex_st 3 (pc' := 30) (ls' := [(0, xr 143), (1, xi (↑n)), (2, xi k)]) (st' := [xi (↑n), xr 144]) rfl ?_
                      refine ex_iald (j := n) rfl (by decide) (rfl : xSH[144]? = some _) (by omega) (by omega) (by decide) ?_
                      rw [hq]
                      refine ex_st 2 (pc' := 33) (ls' := [(3, xi 5), (0, xr 143), (1, xi (↑n)), (2, xi k)]) (st' := [xi k]) rfl ?_
                      refine ex_if rfl (by first | omega | (constructor <;> omega) | assumption) (fun (h7 : k = 0) => ?_) (fun (h7 : ¬ k = 0) => ?_)
                      · exfalso; omega
                      · refine ex_st 2 (pc' := 38) (ls' := [(3, xi 5), (0, xr 143), (1, xi (↑n)), (2, xi k)]) (st' := [xi k, xi 5]) rfl ?_
                        refine ex_ic rfl (by decide) (by first | omega | (constructor <;> omega) | assumption) (fun (h8 : ((5 : Int)) = k) => ?_) (fun (h8 : ¬ ((5 : Int)) = k) => ?_)
                        · exfalso; omega
                        · refine ex_st 2 (pc' := 43) (ls' := [(3, xi 5), (0, xr 143), (1, xi (↑n)), (2, xi k)]) (st' := [xi 1, xi k]) rfl ?_
                          refine ex_ic rfl (by first | omega | (constructor <;> omega) | assumption) (by decide) (fun (h9 : ¬ k = 1) => ?_) (fun (h9 : ¬ ¬ k = 1) => ?_)
                          · refine ex_st 2 (pc' := 53) (ls' := [(3, xi 5), (0, xr 143), (1, xi (↑n)), (2, xi k)]) (st' := [xi 2, xi k]) rfl ?_
                            refine ex_ic rfl (by first | omega | (constructor <;> omega) | assumption) (by decide) (fun (h10 : ¬ k = 2) => ?_) (fun (h10 : ¬ ¬ k = 2) => ?_)
                            · refine ex_st 2 (pc' := 63) (ls' := [(3, xi 5), (0, xr 143), (1, xi (↑n)), (2, xi k)]) (st' := [xi 3, xi k]) rfl ?_
                              refine ex_ic rfl (by first | omega | (constructor <;> omega) | assumption) (by decide) (fun (h11 : ¬ k = 3) => ?_) (fun (h11 : ¬ ¬ k = 3) => ?_)
                              · refine ex_st 1 (pc' := 78) (ls' := [(3, xi 5), (0, xr 143), (1, xi (↑n)), (2, xi k)]) (st' := [xi (-12)]) rfl ?_
                                refine ex_reti rfl rfl ?_
                                exact ⟨x_req (by first | rfl | omega), _, _, rfl, hR⟩
                              · refine ex_st 2 (pc' := 69) (ls' := [(3, xi 5), (0, xr 143), (1, xi (↑n)), (2, xi k)]) (st' := [xi 6, xi 5]) rfl ?_
                                refine ex_st 1 (pc' := 76) (ls' := [(3, xi 5), (0, xr 143), (1, xi (↑n)), (2, xi k)]) (st' := []) rfl ?_
                                refine ex_st 1 (pc' := 78) (ls' := [(3, xi 5), (0, xr 143), (1, xi (↑n)), (2, xi k)]) (st' := [xi (-12)]) rfl ?_
                                refine ex_reti rfl rfl ?_
                                exact ⟨x_req (by first | rfl | omega), _, _, rfl, hR⟩
                            · exfalso; omega
                          · refine ex_st 2 (pc' := 48) (ls' := [(3, xi 5), (0, xr 143), (1, xi (↑n)), (2, xi k)]) (st' := [xi 4, xi 5]) rfl ?_
                            refine ex_st 1 (pc' := 51) (ls' := [(3, xi 5), (0, xr 143), (1, xi (↑n)), (2, xi k)]) (st' := []) rfl ?_
                            refine ex_st 2 (pc' := 53) (ls' := [(3, xi 5), (0, xr 143), (1, xi (↑n)), (2, xi k)]) (st' := [xi 2, xi k]) rfl ?_
                            refine ex_ic rfl (by first | omega | (constructor <;> omega) | assumption) (by decide) (fun (h12 : ¬ k = 2) => ?_) (fun (h12 : ¬ ¬ k = 2) => ?_)
                            · refine ex_st 2 (pc' := 63) (ls' := [(3, xi 5), (0, xr 143), (1, xi (↑n)), (2, xi k)]) (st' := [xi 3, xi k]) rfl ?_
                              refine ex_ic rfl (by first | omega | (constructor <;> omega) | assumption) (by decide) (fun (h13 : ¬ k = 3) => ?_) (fun (h13 : ¬ ¬ k = 3) => ?_)
                              · refine ex_st 1 (pc' := 78) (ls' := [(3, xi 5), (0, xr 143), (1, xi (↑n)), (2, xi k)]) (st' := [xi (-12)]) rfl ?_
                                refine ex_reti rfl rfl ?_
                                exact ⟨x_req (by first | rfl | omega), _, _, rfl, hR⟩
                              · exfalso; omega
                            · exfalso; omega
                    · exfalso; omega
                  · exfalso; omega
                · refine ex_st 1 (pc' := 20) (ls' := [(3, xi 2), (2, xi 0), (0, xi 5), (1, xi k)]) (st' := [xi 1]) rfl ?_
                  refine ex_retz rfl (Or.inr rfl) rfl ?_
                  refine ex_st 1 (pc' := 42) (ls' := [(3, xi 5), (0, xr 0), (1, xi (↑n)), (2, xi k)]) (st' := []) rfl ?_
                  refine ex_st 2 (pc' := 48) (ls' := [(3, xi 5), (0, xr 0), (1, xi (↑n)), (2, xi k)]) (st' := [xi 5]) rfl ?_
                  refine ex_reti rfl rfl ?_
                  refine x_CQ.of (M := xM_m_taken) rfl (Nat.le_of_ble_eq_true rfl) ?_
                  refine ex_st 4 (pc' := 5) (ls' := [(0, xr 143), (1, xi (↑n)), (2, xi k)]) (st' := [xi 6, xi 0, xi k, xr 143]) rfl ?_
                  refine ex_call (ct_m_in (by first | omega | (constructor <;> omega) | assumption) (by first | omega | (constructor <;> omega) | assumption) (by first | omega | (constructor <;> omega) | assumption)) (by decide) rfl ⟨rfl, rfl, rfl⟩ ⟨Nat.le_of_ble_eq_true rfl, rfl, rfl⟩ (Nat.le_of_ble_eq_true rfl) rfl ?_
                  refine ex_bne rfl (fun h14 => ?_) (fun h14 => ?_)
                  · refine ex_st 2 (pc' := 16) (ls' := [(0, xr 143), (1, xi (↑n)), (2, xi k)]) (st' := [xi (↑n), xr 143]) rfl ?_
                    refine ex_call (ct_m_isOfficial2 (c := I 143 0) (by first | omega | (constructor <;> omega) | assumption | ((repeat rw [x_up_far (by omega)]); first | rfl | omega | (constructor <;> omega))) (by (repeat rw [x_up_far (by omega)]); try rfl) (by first | omega | (constructor <;> omega) | assumption | ((repeat rw [x_up_far (by omega)]); first | rfl | omega | (constructor <;> omega)))) (by decide) rfl ⟨rfl, rfl, rfl⟩ ⟨Nat.le_of_ble_eq_true rfl, rfl, rfl⟩ (Nat.le_of_ble_eq_true rfl) rfl ?_
                    refine ex_bne rfl (fun h15 => ?_) (fun h15 => ?_)
                    · refine ex_st 3 (pc' := 30) (ls' := [(0, xr 143), (1, xi (↑n)), (2, xi k)]) (st' := [xi (↑n), xr 144]) rfl ?_
                      refine ex_iald (j := n) rfl (by decide) (rfl : xSH[144]? = some _) (by omega) (by omega) (by decide) ?_
                      rw [hq]
                      refine ex_st 2 (pc' := 33) (ls' := [(3, xi 5), (0, xr 143), (1, xi (↑n)), (2, xi k)]) (st' := [xi k]) rfl ?_
                      refine ex_if rfl (by first | omega | (constructor <;> omega) | assumption) (fun (h16 : k = 0) => ?_) (fun (h16 : ¬ k = 0) => ?_)
                      · refine ex_st 2 (pc' := 78) (ls' := [(3, xi 5), (0, xr 143), (1, xi (↑n)), (2, xi k)]) (st' := [xi 5]) rfl ?_
                        refine ex_reti rfl rfl ?_
                        exact ⟨x_req (by first | rfl | omega), _, _, rfl, hR⟩
                      · exfalso; omega
                    · exfalso; omega
                  · exfalso; omega
              · refine ex_st 1 (pc' := 20) (ls' := [(3, xi 1), (2, xi 2), (0, xi 5), (1, xi k)]) (st' := [xi 1]) rfl ?_
                refine ex_retz rfl (Or.inr rfl) rfl ?_
                refine ex_st 1 (pc' := 42) (ls' := [(3, xi 5), (0, xr 0), (1, xi (↑n)), (2, xi k)]) (st' := []) rfl ?_
                refine ex_st 2 (pc' := 48) (ls' := [(3, xi 5), (0, xr 0), (1, xi (↑n)), (2, xi k)]) (st' := [xi 5]) rfl ?_
                refine ex_reti rfl rfl ?_
                refine x_CQ.of (M := xM_m_taken) rfl (Nat.le_of_ble_eq_true rfl) ?_
                refine ex_st 4 (pc' := 5) (ls' := [(0, xr 143), (1, xi (↑n)), (2, xi k)]) (st' := [xi 6, xi 0, xi k, xr 143]) rfl ?_
                refine ex_call (ct_m_in (by first | omega | (constructor <;> omega) | assumption) (by first | omega | (constructor <;> omega) | assumption) (by first | omega | (constructor <;> omega) | assumption)) (by decide) rfl ⟨rfl, rfl, rfl⟩ ⟨Nat.le_of_ble_eq_true rfl, rfl, rfl⟩ (Nat.le_of_ble_eq_true rfl) rfl ?_
                refine ex_bne rfl (fun h17 => ?_) (fun h17 => ?_)
                · refine ex_st 2 (pc' := 16) (ls' := [(0, xr 143), (1, xi (↑n)), (2, xi k)]) (st' := [xi (↑n), xr 143]) rfl ?_
                  refine ex_call (ct_m_isOfficial2 (c := I 143 0) (by first | omega | (constructor <;> omega) | assumption | ((repeat rw [x_up_far (by omega)]); first | rfl | omega | (constructor <;> omega))) (by (repeat rw [x_up_far (by omega)]); try rfl) (by first | omega | (constructor <;> omega) | assumption | ((repeat rw [x_up_far (by omega)]); first | rfl | omega | (constructor <;> omega)))) (by decide) rfl ⟨rfl, rfl, rfl⟩ ⟨Nat.le_of_ble_eq_true rfl, rfl, rfl⟩ (Nat.le_of_ble_eq_true rfl) rfl ?_
                  refine ex_bne rfl (fun h18 => ?_) (fun h18 => ?_)
                  · refine ex_st 3 (pc' := 30) (ls' := [(0, xr 143), (1, xi (↑n)), (2, xi k)]) (st' := [xi (↑n), xr 144]) rfl ?_
                    refine ex_iald (j := n) rfl (by decide) (rfl : xSH[144]? = some _) (by omega) (by omega) (by decide) ?_
                    rw [hq]
                    refine ex_st 2 (pc' := 33) (ls' := [(3, xi 5), (0, xr 143), (1, xi (↑n)), (2, xi k)]) (st' := [xi k]) rfl ?_
                    refine ex_if rfl (by first | omega | (constructor <;> omega) | assumption) (fun (h19 : k = 0) => ?_) (fun (h19 : ¬ k = 0) => ?_)
                    · exfalso; omega
                    · refine ex_st 2 (pc' := 38) (ls' := [(3, xi 5), (0, xr 143), (1, xi (↑n)), (2, xi k)]) (st' := [xi k, xi 5]) rfl ?_
                      refine ex_ic rfl (by decide) (by first | omega | (constructor <;> omega) | assumption) (fun (h20 : ((5 : Int)) = k) => ?_) (fun (h20 : ¬ ((5 : Int)) = k) => ?_)
                      · exfalso; omega
                      · refine ex_st 2 (pc' := 43) (ls' := [(3, xi 5), (0, xr 143), (1, xi (↑n)), (2, xi k)]) (st' := [xi 1, xi k]) rfl ?_
                        refine ex_ic rfl (by first | omega | (constructor <;> omega) | assumption) (by decide) (fun (h21 : ¬ k = 1) => ?_) (fun (h21 : ¬ ¬ k = 1) => ?_)
                        · refine ex_st 2 (pc' := 53) (ls' := [(3, xi 5), (0, xr 143), (1, xi (↑n)), (2, xi k)]) (st' := [xi 2, xi k]) rfl ?_
                          refine ex_ic rfl (by first | omega | (constructor <;> omega) | assumption) (by decide) (fun (h22 : ¬ k = 2) => ?_) (fun (h22 : ¬ ¬ k = 2) => ?_)
                          · exfalso; omega
                          · refine ex_st 2 (pc' := 58) (ls' := [(3, xi 5), (0, xr 143), (1, xi (↑n)), (2, xi k)]) (st' := [xi 5, xi 5]) rfl ?_
                            refine ex_st 1 (pc' := 72) (ls' := [(3, xi 5), (0, xr 143), (1, xi (↑n)), (2, xi k)]) (st' := []) rfl ?_
                            refine ex_st 2 (pc' := 78) (ls' := [(3, xi 5), (0, xr 143), (1, xi (↑n)), (2, xi k)]) (st' := [xi 5]) rfl ?_
                            refine ex_reti rfl rfl ?_
                            exact ⟨x_req (by first | rfl | omega), _, _, rfl, hR⟩
                        · exfalso; omega
                  · exfalso; omega
                · exfalso; omega
            · refine ex_st 1 (pc' := 20) (ls' := [(3, xi 0), (2, xi 5), (0, xi 5), (1, xi k)]) (st' := [xi 1]) rfl ?_
              refine ex_retz rfl (Or.inr rfl) rfl ?_
              refine ex_st 1 (pc' := 42) (ls' := [(3, xi 5), (0, xr 0), (1, xi (↑n)), (2, xi k)]) (st' := []) rfl ?_
              refine ex_st 2 (pc' := 48) (ls' := [(3, xi 5), (0, xr 0), (1, xi (↑n)), (2, xi k)]) (st' := [xi 5]) rfl ?_
              refine ex_reti rfl rfl ?_
              refine x_CQ.of (M := xM_m_taken) rfl (Nat.le_of_ble_eq_true rfl) ?_
              refine ex_st 4 (pc' := 5) (ls' := [(0, xr 143), (1, xi (↑n)), (2, xi k)]) (st' := [xi 6, xi 0, xi k, xr 143]) rfl ?_
              refine ex_call (ct_m_in (by first | omega | (constructor <;> omega) | assumption) (by first | omega | (constructor <;> omega) | assumption) (by first | omega | (constructor <;> omega) | assumption)) (by decide) rfl ⟨rfl, rfl, rfl⟩ ⟨Nat.le_of_ble_eq_true rfl, rfl, rfl⟩ (Nat.le_of_ble_eq_true rfl) rfl ?_
              refine ex_bne rfl (fun h23 => ?_) (fun h23 => ?_)
              · refine ex_st 2 (pc' := 16) (ls' := [(0, xr 143), (1, xi (↑n)), (2, xi k)]) (st' := [xi (↑n), xr 143]) rfl ?_
                refine ex_call (ct_m_isOfficial2 (c := I 143 0) (by first | omega | (constructor <;> omega) | assumption | ((repeat rw [x_up_far (by omega)]); first | rfl | omega | (constructor <;> omega))) (by (repeat rw [x_up_far (by omega)]); try rfl) (by first | omega | (constructor <;> omega) | assumption | ((repeat rw [x_up_far (by omega)]); first | rfl | omega | (constructor <;> omega)))) (by decide) rfl ⟨rfl, rfl, rfl⟩ ⟨Nat.le_of_ble_eq_true rfl, rfl, rfl⟩ (Nat.le_of_ble_eq_true rfl) rfl ?_
                refine ex_bne rfl (fun h24 => ?_) (fun h24 => ?_)
                · refine ex_st 3 (pc' := 30) (ls' := [(0, xr 143), (1, xi (↑n)), (2, xi k)]) (st' := [xi (↑n), xr 144]) rfl ?_
                  refine ex_iald (j := n) rfl (by decide) (rfl : xSH[144]? = some _) (by omega) (by omega) (by decide) ?_
                  rw [hq]
                  refine ex_st 2 (pc' := 33) (ls' := [(3, xi 5), (0, xr 143), (1, xi (↑n)), (2, xi k)]) (st' := [xi k]) rfl ?_
                  refine ex_if rfl (by first | omega | (constructor <;> omega) | assumption) (fun (h25 : k = 0) => ?_) (fun (h25 : ¬ k = 0) => ?_)
                  · exfalso; omega
                  · refine ex_st 2 (pc' := 38) (ls' := [(3, xi 5), (0, xr 143), (1, xi (↑n)), (2, xi k)]) (st' := [xi k, xi 5]) rfl ?_
                    refine ex_ic rfl (by decide) (by first | omega | (constructor <;> omega) | assumption) (fun (h26 : ((5 : Int)) = k) => ?_) (fun (h26 : ¬ ((5 : Int)) = k) => ?_)
                    · refine ex_st 2 (pc' := 78) (ls' := [(3, xi 5), (0, xr 143), (1, xi (↑n)), (2, xi k)]) (st' := [xi 5]) rfl ?_
                      refine ex_reti rfl rfl ?_
                      exact ⟨x_req (by first | rfl | omega), _, _, rfl, hR⟩
                    · exfalso; omega
                · exfalso; omega
              · exfalso; omega
          · exfalso; omega
        · exfalso; omega
      · skip
        have hq : I 144 n = 6 := hq
        have hq2 : I (11 + 3 * n) 0 = 6 := hq2
        refine x_CQ.of (M := xM_G_taken) rfl (Nat.le_of_ble_eq_true rfl) ?_
        refine ex_st 1 (pc' := 1) (ls' := [(0, xr 0), (1, xi (↑n)), (2, xi k)]) (st' := [xi k]) rfl ?_
        refine ex_call (ct_G_isKind (by first | omega | (constructor <;> omega) | assumption)) (by decide) rfl ⟨rfl, rfl, rfl⟩ ⟨Nat.le_of_ble_eq_true rfl, rfl, rfl⟩ (Nat.le_of_ble_eq_true rfl) rfl ?_
        refine ex_bne rfl (fun h0 => ?_) (fun h0 => ?_)
        · refine ex_st 2 (pc' := 12) (ls' := [(0, xr 0), (1, xi (↑n)), (2, xi k)]) (st' := [xi (↑n), xr 0]) rfl ?_
          refine ex_call (ct_G_isOfficial2 (c := I 1 1) (by first | omega | (constructor <;> omega) | assumption | ((repeat rw [x_up_far (by omega)]); first | rfl | omega | (constructor <;> omega))) (by (repeat rw [x_up_far (by omega)]); try rfl) (by first | omega | (constructor <;> omega) | assumption | ((repeat rw [x_up_far (by omega)]); first | rfl | omega | (constructor <;> omega)))) (by decide) rfl ⟨rfl, rfl, rfl⟩ ⟨Nat.le_of_ble_eq_true rfl, rfl, rfl⟩ (Nat.le_of_ble_eq_true rfl) rfl ?_
          refine ex_bne rfl (fun h1 => ?_) (fun h1 => ?_)
          · refine ex_st 4 (pc' := 29) (ls' := [(0, xr 0), (1, xi (↑n)), (2, xi k)]) (st' := [xi (↑n), xr 2]) rfl ?_
            refine ex_aald (q := 11 + 3 * n) (j := n) rfl (by decide) (rfl : xSH[2]? = some _) (by decide) (by omega) (by omega) (by decide) (x_aa2 n (by omega)) (by omega) ?_
            refine ex_gfi rfl (by omega) (x_so1 n (by omega)).1 (by decide) (by decide) rfl ?_
            rw [hq2]
            refine ex_st 3 (pc' := 36) (ls' := [(3, xi 6), (0, xr 0), (1, xi (↑n)), (2, xi k)]) (st' := [xi k, xi 6]) rfl ?_
            refine ex_inl (M' := xM_G_isKindUnder) (as := [xi 6, xi k]) (rest := []) (D' := 28) rfl (Nat.le_of_ble_eq_true rfl) (by decide) rfl ⟨rfl, rfl, rfl⟩ ⟨Nat.le_of_ble_eq_true rfl, rfl, rfl⟩ (Nat.le_of_ble_eq_true rfl) rfl ?_
            refine ex_st 6 (pc' := 7) (ls' := [(3, xi 0), (2, xi 6), (0, xi 6), (1, xi k)]) (st' := [xi 7, xi 0]) rfl ?_
            refine ex_st 1 (pc' := 10) (ls' := [(3, xi 0), (2, xi 6), (0, xi 6), (1, xi k)]) (st' := []) rfl ?_
            refine ex_st 1 (pc' := 11) (ls' := [(3, xi 0), (2, xi 6), (0, xi 6), (1, xi k)]) (st' := [xi 6]) rfl ?_
            refine ex_st 1 (pc' := 14) (ls' := [(3, xi 0), (2, xi 6), (0, xi 6), (1, xi k)]) (st' := []) rfl ?_
            refine ex_st 2 (pc' := 16) (ls' := [(3, xi 0), (2, xi 6), (0, xi 6), (1, xi k)]) (st' := [xi k, xi 6]) rfl ?_
            refine ex_ic rfl (by decide) (by first | omega | (constructor <;> omega) | assumption) (fun (h2 : ¬ ((6 : Int)) = k) => ?_) (fun (h2 : ¬ ¬ ((6 : Int)) = k) => ?_)
            · refine ex_st 2 (pc' := 25) (ls' := [(3, xi 0), (2, xi 6), (0, xi 6), (1, xi k)]) (st' := [xi 6, xr 1001]) rfl ?_
              refine ex_cald (v := 3) (j := 6) rfl (by decide) rfl (by decide) (by decide) (by decide) (rfl) ?_
              refine ex_st 5 (pc' := 7) (ls' := [(3, xi 1), (2, xi 3), (0, xi 6), (1, xi k)]) (st' := [xi 7, xi 1]) rfl ?_
              refine ex_st 1 (pc' := 10) (ls' := [(3, xi 1), (2, xi 3), (0, xi 6), (1, xi k)]) (st' := []) rfl ?_
              refine ex_st 1 (pc' := 11) (ls' := [(3, xi 1), (2, xi 3), (0, xi 6), (1, xi k)]) (st' := [xi 3]) rfl ?_
              refine ex_st 1 (pc' := 14) (ls' := [(3, xi 1), (2, xi 3), (0, xi 6), (1, xi k)]) (st' := []) rfl ?_
              refine ex_st 2 (pc' := 16) (ls' := [(3, xi 1), (2, xi 3), (0, xi 6), (1, xi k)]) (st' := [xi k, xi 3]) rfl ?_
              refine ex_ic rfl (by decide) (by first | omega | (constructor <;> omega) | assumption) (fun (h3 : ¬ ((3 : Int)) = k) => ?_) (fun (h3 : ¬ ¬ ((3 : Int)) = k) => ?_)
              · refine ex_st 2 (pc' := 25) (ls' := [(3, xi 1), (2, xi 3), (0, xi 6), (1, xi k)]) (st' := [xi 3, xr 1001]) rfl ?_
                refine ex_cald (v := 0) (j := 3) rfl (by decide) rfl (by decide) (by decide) (by decide) (rfl) ?_
                refine ex_st 5 (pc' := 7) (ls' := [(3, xi 2), (2, xi 0), (0, xi 6), (1, xi k)]) (st' := [xi 7, xi 2]) rfl ?_
                refine ex_st 1 (pc' := 10) (ls' := [(3, xi 2), (2, xi 0), (0, xi 6), (1, xi k)]) (st' := []) rfl ?_
                refine ex_st 1 (pc' := 11) (ls' := [(3, xi 2), (2, xi 0), (0, xi 6), (1, xi k)]) (st' := [xi 0]) rfl ?_
                refine ex_st 1 (pc' := 14) (ls' := [(3, xi 2), (2, xi 0), (0, xi 6), (1, xi k)]) (st' := []) rfl ?_
                refine ex_st 2 (pc' := 16) (ls' := [(3, xi 2), (2, xi 0), (0, xi 6), (1, xi k)]) (st' := [xi k, xi 0]) rfl ?_
                refine ex_ic rfl (by decide) (by first | omega | (constructor <;> omega) | assumption) (fun (h4 : ¬ ((0 : Int)) = k) => ?_) (fun (h4 : ¬ ¬ ((0 : Int)) = k) => ?_)
                · refine ex_st 2 (pc' := 25) (ls' := [(3, xi 2), (2, xi 0), (0, xi 6), (1, xi k)]) (st' := [xi 0, xr 1001]) rfl ?_
                  refine ex_cald (v := -1) (j := 0) rfl (by decide) rfl (by decide) (by decide) (by decide) (rfl) ?_
                  refine ex_st 5 (pc' := 7) (ls' := [(3, xi 3), (2, xi (-1)), (0, xi 6), (1, xi k)]) (st' := [xi 7, xi 3]) rfl ?_
                  refine ex_st 1 (pc' := 10) (ls' := [(3, xi 3), (2, xi (-1)), (0, xi 6), (1, xi k)]) (st' := []) rfl ?_
                  refine ex_st 1 (pc' := 11) (ls' := [(3, xi 3), (2, xi (-1)), (0, xi 6), (1, xi k)]) (st' := [xi (-1)]) rfl ?_
                  refine ex_st 1 (pc' := 33) (ls' := [(3, xi 3), (2, xi (-1)), (0, xi 6), (1, xi k)]) (st' := []) rfl ?_
                  refine ex_st 1 (pc' := 34) (ls' := [(3, xi 3), (2, xi (-1)), (0, xi 6), (1, xi k)]) (st' := [xi 0]) rfl ?_
                  refine ex_retz rfl (Or.inl rfl) rfl ?_
                  refine ex_st 1 (pc' := 46) (ls' := [(3, xi 6), (0, xr 0), (1, xi (↑n)), (2, xi k)]) (st' := []) rfl ?_
                  refine ex_st 1 (pc' := 48) (ls' := [(3, xi 6), (0, xr 0), (1, xi (↑n)), (2, xi k)]) (st' := [xi (-12)]) rfl ?_
                  refine ex_reti rfl rfl ?_
                  refine x_CQ.of (M := xM_m_taken) rfl (Nat.le_of_ble_eq_true rfl) ?_
                  refine ex_st 4 (pc' := 5) (ls' := [(0, xr 143), (1, xi (↑n)), (2, xi k)]) (st' := [xi 6, xi 0, xi k, xr 143]) rfl ?_
                  refine ex_call (ct_m_in (by first | omega | (constructor <;> omega) | assumption) (by first | omega | (constructor <;> omega) | assumption) (by first | omega | (constructor <;> omega) | assumption)) (by decide) rfl ⟨rfl, rfl, rfl⟩ ⟨Nat.le_of_ble_eq_true rfl, rfl, rfl⟩ (Nat.le_of_ble_eq_true rfl) rfl ?_
                  refine ex_bne rfl (fun h5 => ?_) (fun h5 => ?_)
                  · refine ex_st 2 (pc' := 16) (ls' := [(0, xr 143), (1, xi (↑n)), (2, xi k)]) (st' := [xi (↑n), xr 143]) rfl ?_
                    refine ex_call (ct_m_isOfficial2 (c := I 143 0) (by first | omega | (constructor <;> omega) | assumption | ((repeat rw [x_up_far (by omega)]); first | rfl | omega | (constructor <;> omega))) (by (repeat rw [x_up_far (by omega)]); try rfl) (by first | omega | (constructor <;> omega) | assumption | ((repeat rw [x_up_far (by omega)]); first | rfl | omega | (constructor <;> omega)))) (by decide) rfl ⟨rfl, rfl, rfl⟩ ⟨Nat.le_of_ble_eq_true rfl, rfl, rfl⟩ (Nat.le_of_ble_eq_true rfl) rfl ?_
                    refine ex_bne rfl (fun h6 => ?_) (fun h6 => ?_)
                    · refine ex_st 3 (pc' := 30) (ls' := [(0, xr 143), (1, xi (↑n)), (2, xi k)]) (st' := [xi (↑n), xr 144]) rfl ?_
                      refine ex_iald (j := n) rfl (by decide) (rfl : xSH[144]? = some _) (by omega) (by omega) (by decide) ?_
                      rw [hq]
                      refine ex_st 2 (pc' := 33) (ls' := [(3, xi 6), (0, xr 143), (1, xi (↑n)), (2, xi k)]) (st' := [xi k]) rfl ?_
                      refine ex_if rfl (by first | omega | (constructor <;> omega) | assumption) (fun (h7 : k = 0) => ?_) (fun (h7 : ¬ k = 0) => ?_)
                      · exfalso; omega
                      · refine ex_st 2 (pc' := 38) (ls' := [(3, xi 6), (0, xr 143), (1, xi (↑n)), (2, xi k)]) (st' := [xi k, xi 6]) rfl ?_
                        refine ex_ic rfl (by decide) (by first | omega | (constructor <;> omega) | assumption) (fun (h8 : ((6 : Int)) = k) => ?_) (fun (h8 : ¬ ((6 : Int)) = k) => ?_)
                        · exfalso; omega
                        · refine ex_st 2 (pc' := 43) (ls' := [(3, xi 6), (0, xr 143), (1, xi (↑n)), (2, xi k)]) (st' := [xi 1, xi k]) rfl ?_
                          refine ex_ic rfl (by first | omega | (constructor <;> omega) | assumption) (by decide) (fun (h9 : ¬ k = 1) => ?_) (fun (h9 : ¬ ¬ k = 1) => ?_)
                          · refine ex_st 2 (pc' := 53) (ls' := [(3, xi 6), (0, xr 143), (1, xi (↑n)), (2, xi k)]) (st' := [xi 2, xi k]) rfl ?_
                            refine ex_ic rfl (by first | omega | (constructor <;> omega) | assumption) (by decide) (fun (h10 : ¬ k = 2) => ?_) (fun (h10 : ¬ ¬ k = 2) => ?_)
                            · refine ex_st 2 (pc' := 63) (ls' := [(3, xi 6), (0, xr 143), (1, xi (↑n)), (2, xi k)]) (st' := [xi 3, xi k]) rfl ?_
                              refine ex_ic rfl (by first | omega | (constructor <;> omega) | assumption) (by decide) (fun (h11 : ¬ k = 3) => ?_) (fun (h11 : ¬ ¬ k = 3) => ?_)
                              · refine ex_st 1 (pc' := 78) (ls' := [(3, xi 6), (0, xr 143), (1, xi (↑n)), (2, xi k)]) (st' := [xi (-12)]) rfl ?_
                                refine ex_reti rfl rfl ?_
                                exact ⟨x_req (by first | rfl | omega), _, _, rfl, hR⟩
                              · exfalso; omega
                            · refine ex_st 2 (pc' := 58) (ls' := [(3, xi 6), (0, xr 143), (1, xi (↑n)), (2, xi k)]) (st' := [xi 5, xi 6]) rfl ?_
                              refine ex_st 1 (pc' := 61) (ls' := [(3, xi 6), (0, xr 143), (1, xi (↑n)), (2, xi k)]) (st' := []) rfl ?_
                              refine ex_st 2 (pc' := 63) (ls' := [(3, xi 6), (0, xr 143), (1, xi (↑n)), (2, xi k)]) (st' := [xi 3, xi k]) rfl ?_
                              refine ex_ic rfl (by first | omega | (constructor <;> omega) | assumption) (by decide) (fun (h12 : ¬ k = 3) => ?_) (fun (h12 : ¬ ¬ k = 3) => ?_)
                              · refine ex_st 1 (pc' := 78) (ls' := [(3, xi 6), (0, xr 143), (1, xi (↑n)), (2, xi k)]) (st' := [xi (-12)]) rfl ?_
                                refine ex_reti rfl rfl ?_
                                exact ⟨x_req (by first | rfl | omega), _, _, rfl, hR⟩
                              · exfalso; omega
                          · refine ex_st 2 (pc' := 48) (ls' := [(3, xi 6), (0, xr 143), (1, xi (↑n)), (2, xi k)]) (st' := [xi 4, xi 6]) rfl ?_
                            refine ex_st 1 (pc' := 51) (ls' := [(3, xi 6), (0, xr 143), (1, xi (↑n)), (2, xi k)]) (st' := []) rfl ?_
                            refine ex_st 2 (pc' := 53) (ls' := [(3, xi 6), (0, xr 143), (1, xi (↑n)), (2, xi k)]) (st' := [xi 2, xi k]) rfl ?_
                            refine ex_ic rfl (by first | omega | (constructor <;> omega) | assumption) (by decide) (fun (h13 : ¬ k = 2) => ?_) (fun (h13 : ¬ ¬ k = 2) => ?_)
                            · refine ex_st 2 (pc' := 63) (ls' := [(3, xi 6), (0, xr 143), (1, xi (↑n)), (2, xi k)]) (st' := [xi 3, xi k]) rfl ?_
                              refine ex_ic rfl (by first | omega | (constructor <;> omega) | assumption) (by decide) (fun (h14 : ¬ k = 3) => ?_) (fun (h14 : ¬ ¬ k = 3) => ?_)
                              · refine ex_st 1 (pc' := 78) (ls' := [(3, xi 6), (0, xr 143), (1, xi (↑n)), (2, xi k)]) (st' := [xi (-12)]) rfl ?_
                                refine ex_reti rfl rfl ?_
                                exact ⟨x_req (by first | rfl | omega), _, _, rfl, hR⟩
                              · exfalso; omega
                            · exfalso; omega
                    · exfalso; omega
                  · exfalso; omega
                · refine ex_st 1 (pc' := 20) (ls' := [(3, xi 2), (2, xi 0), (0, xi 6), (1, xi k)]) (st' := [xi 1]) rfl ?_
                  refine ex_retz rfl (Or.inr rfl) rfl ?_
                  refine ex_st 1 (pc' := 42) (ls' := [(3, xi 6), (0, xr 0), (1, xi (↑n)), (2, xi k)]) (st' := []) rfl ?_
                  refine ex_st 2 (pc' := 48) (ls' := [(3, xi 6), (0, xr 0), (1, xi (↑n)), (2, xi k)]) (st' := [xi 6]) rfl ?_
                  refine ex_reti rfl rfl ?_
                  refine x_CQ.of (M := xM_m_taken) rfl (Nat.le_of_ble_eq_true rfl) ?_
                  refine ex_st 4 (pc' := 5) (ls' := [(0, xr 143), (1, xi (↑n)), (2, xi k)]) (st' := [xi 6, xi 0, xi k, xr 143]) rfl ?_
                  refine ex_call (ct_m_in (by first | omega | (constructor <;> omega) | assumption) (by first | omega | (constructor <;> omega) | assumption) (by first | omega | (constructor <;> omega) | assumption)) (by decide) rfl ⟨rfl, rfl, rfl⟩ ⟨Nat.le_of_ble_eq_true rfl, rfl, rfl⟩ (Nat.le_of_ble_eq_true rfl) rfl ?_
                  refine ex_bne rfl (fun h15 => ?_) (fun h15 => ?_)
                  · refine ex_st 2 (pc' := 16) (ls' := [(0, xr 143), (1, xi (↑n)), (2, xi k)]) (st' := [xi (↑n), xr 143]) rfl ?_
                    refine ex_call (ct_m_isOfficial2 (c := I 143 0) (by first | omega | (constructor <;> omega) | assumption | ((repeat rw [x_up_far (by omega)]); first | rfl | omega | (constructor <;> omega))) (by (repeat rw [x_up_far (by omega)]); try rfl) (by first | omega | (constructor <;> omega) | assumption | ((repeat rw [x_up_far (by omega)]); first | rfl | omega | (constructor <;> omega)))) (by decide) rfl ⟨rfl, rfl, rfl⟩ ⟨Nat.le_of_ble_eq_true rfl, rfl, rfl⟩ (Nat.le_of_ble_eq_true rfl) rfl ?_
                    refine ex_bne rfl (fun h16 => ?_) (fun h16 => ?_)
                    · refine ex_st 3 (pc' := 30) (ls' := [(0, xr 143), (1, xi (↑n)), (2, xi k)]) (st' := [xi (↑n), xr 144]) rfl ?_
                      refine ex_iald (j := n) rfl (by decide) (rfl : xSH[144]? = some _) (by omega) (by omega) (by decide) ?_
                      rw [hq]
                      refine ex_st 2 (pc' := 33) (ls' := [(3, xi 6), (0, xr 143), (1, xi (↑n)), (2, xi k)]) (st' := [xi k]) rfl ?_
                      refine ex_if rfl (by first | omega | (constructor <;> omega) | assumption) (fun (h17 : k = 0) => ?_) (fun (h17 : ¬ k = 0) => ?_)
                      · refine ex_st 2 (pc' := 78) (ls' := [(3, xi 6), (0, xr 143), (1, xi (↑n)), (2, xi k)]) (st' := [xi 6]) rfl ?_
                        refine ex_reti rfl rfl ?_
                        exact ⟨x_req (by first | rfl | omega), _, _, rfl, hR⟩
                      · exfalso; omega
                    · exfalso; omega
                  · exfalso; omega
              · refine ex_st 1 (pc' := 20) (ls' := [(3, xi 1), (2, xi 3), (0, xi 6), (1, xi k)]) (st' := [xi 1]) rfl ?_
                refine ex_retz rfl (Or.inr rfl) rfl ?_
                refine ex_st 1 (pc' := 42) (ls' := [(3, xi 6), (0, xr 0), (1, xi (↑n)), (2, xi k)]) (st' := []) rfl ?_
                refine ex_st 2 (pc' := 48) (ls' := [(3, xi 6), (0, xr 0), (1, xi (↑n)), (2, xi k)]) (st' := [xi 6]) rfl ?_
                refine ex_reti rfl rfl ?_
                refine x_CQ.of (M := xM_m_taken) rfl (Nat.le_of_ble_eq_true rfl) ?_
                refine ex_st 4 (pc' := 5) (ls' := [(0, xr 143), (1, xi (↑n)), (2, xi k)]) (st' := [xi 6, xi 0, xi k, xr 143]) rfl ?_
                refine ex_call (ct_m_in (by first | omega | (constructor <;> omega) | assumption) (by first | omega | (constructor <;> omega) | assumption) (by first | omega | (constructor <;> omega) | assumption)) (by decide) rfl ⟨rfl, rfl, rfl⟩ ⟨Nat.le_of_ble_eq_true rfl, rfl, rfl⟩ (Nat.le_of_ble_eq_true rfl) rfl ?_
                refine ex_bne rfl (fun h18 => ?_) (fun h18 => ?_)
                · refine ex_st 2 (pc' := 16) (ls' := [(0, xr 143), (1, xi (↑n)), (2, xi k)]) (st' := [xi (↑n), xr 143]) rfl ?_
                  refine ex_call (ct_m_isOfficial2 (c := I 143 0) (by first | omega | (constructor <;> omega) | assumption | ((repeat rw [x_up_far (by omega)]); first | rfl | omega | (constructor <;> omega))) (by (repeat rw [x_up_far (by omega)]); try rfl) (by first | omega | (constructor <;> omega) | assumption | ((repeat rw [x_up_far (by omega)]); first | rfl | omega | (constructor <;> omega)))) (by decide) rfl ⟨rfl, rfl, rfl⟩ ⟨Nat.le_of_ble_eq_true rfl, rfl, rfl⟩ (Nat.le_of_ble_eq_true rfl) rfl ?_
                  refine ex_bne rfl (fun h19 => ?_) (fun h19 => ?_)
                  · refine ex_st 3 (pc' := 30) (ls' := [(0, xr 143), (1, xi (↑n)), (2, xi k)]) (st' := [xi (↑n), xr 144]) rfl ?_
                    refine ex_iald (j := n) rfl (by decide) (rfl : xSH[144]? = some _) (by omega) (by omega) (by decide) ?_
                    rw [hq]
                    refine ex_st 2 (pc' := 33) (ls' := [(3, xi 6), (0, xr 143), (1, xi (↑n)), (2, xi k)]) (st' := [xi k]) rfl ?_
                    refine ex_if rfl (by first | omega | (constructor <;> omega) | assumption) (fun (h20 : k = 0) => ?_) (fun (h20 : ¬ k = 0) => ?_)
                    · exfalso; omega
                    · refine ex_st 2 (pc' := 38) (ls' := [(3, xi 6), (0, xr 143), (1, xi (↑n)), (2, xi k)]) (st' := [xi k, xi 6]) rfl ?_
                      refine ex_ic rfl (by decide) (by first | omega | (constructor <;> omega) | assumption) (fun (h21 : ((6 : Int)) = k) => ?_) (fun (h21 : ¬ ((6 : Int)) = k) => ?_)
                      · exfalso; omega
                      · refine ex_st 2 (pc' := 43) (ls' := [(3, xi 6), (0, xr 143), (1, xi (↑n)), (2, xi k)]) (st' := [xi 1, xi k]) rfl ?_
                        refine ex_ic rfl (by first | omega | (constructor <;> omega) | assumption) (by decide) (fun (h22 : ¬ k = 1) => ?_) (fun (h22 : ¬ ¬ k = 1) => ?_)
                        · refine ex_st 2 (pc' := 53) (ls' := [(3, xi 6), (0, xr 143), (1, xi (↑n)), (2, xi k)]) (st' := [xi 2, xi k]) rfl ?_
                          refine ex_ic rfl (by first | omega | (constructor <;> omega) | assumption) (by decide) (fun (h23 : ¬ k = 2) => ?_) (fun (h23 : ¬ ¬ k = 2) => ?_)
                          · refine ex_st 2 (pc' := 63) (ls' := [(3, xi 6), (0, xr 143), (1, xi (↑n)), (2, xi k)]) (st' := [xi 3, xi k]) rfl ?_
                            refine ex_ic rfl (by first | omega | (constructor <;> omega) | assumption) (by decide) (fun (h24 : ¬ k = 3) => ?_) (fun (h24 : ¬ ¬ k = 3) => ?_)
                            · exfalso; omega
                            · refine ex_st 2 (pc' := 69) (ls' := [(3, xi 6), (0, xr 143), (1, xi (↑n)), (2, xi k)]) (st' := [xi 6, xi 6]) rfl ?_
                              refine ex_st 1 (pc' := 72) (ls' := [(3, xi 6), (0, xr 143), (1, xi (↑n)), (2, xi k)]) (st' := []) rfl ?_
                              refine ex_st 2 (pc' := 78) (ls' := [(3, xi 6), (0, xr 143), (1, xi (↑n)), (2, xi k)]) (st' := [xi 6]) rfl ?_
                              refine ex_reti rfl rfl ?_
                              exact ⟨x_req (by first | rfl | omega), _, _, rfl, hR⟩
                          · exfalso; omega
                        · exfalso; omega
                  · exfalso; omega
                · exfalso; omega
            · refine ex_st 1 (pc' := 20) (ls' := [(3, xi 0), (2, xi 6), (0, xi 6), (1, xi k)]) (st' := [xi 1]) rfl ?_
              refine ex_retz rfl (Or.inr rfl) rfl ?_
              refine ex_st 1 (pc' := 42) (ls' := [(3, xi 6), (0, xr 0), (1, xi (↑n)), (2, xi k)]) (st' := []) rfl ?_
              refine ex_st 2 (pc' := 48) (ls' := [(3, xi 6), (0, xr 0), (1, xi (↑n)), (2, xi k)]) (st' := [xi 6]) rfl ?_
              refine ex_reti rfl rfl ?_
              refine x_CQ.of (M := xM_m_taken) rfl (Nat.le_of_ble_eq_true rfl) ?_
              refine ex_st 4 (pc' := 5) (ls' := [(0, xr 143), (1, xi (↑n)), (2, xi k)]) (st' := [xi 6, xi 0, xi k, xr 143]) rfl ?_
              refine ex_call (ct_m_in (by first | omega | (constructor <;> omega) | assumption) (by first | omega | (constructor <;> omega) | assumption) (by first | omega | (constructor <;> omega) | assumption)) (by decide) rfl ⟨rfl, rfl, rfl⟩ ⟨Nat.le_of_ble_eq_true rfl, rfl, rfl⟩ (Nat.le_of_ble_eq_true rfl) rfl ?_
              refine ex_bne rfl (fun h25 => ?_) (fun h25 => ?_)
              · refine ex_st 2 (pc' := 16) (ls' := [(0, xr 143), (1, xi (↑n)), (2, xi k)]) (st' := [xi (↑n), xr 143]) rfl ?_
                refine ex_call (ct_m_isOfficial2 (c := I 143 0) (by first | omega | (constructor <;> omega) | assumption | ((repeat rw [x_up_far (by omega)]); first | rfl | omega | (constructor <;> omega))) (by (repeat rw [x_up_far (by omega)]); try rfl) (by first | omega | (constructor <;> omega) | assumption | ((repeat rw [x_up_far (by omega)]); first | rfl | omega | (constructor <;> omega)))) (by decide) rfl ⟨rfl, rfl, rfl⟩ ⟨Nat.le_of_ble_eq_true rfl, rfl, rfl⟩ (Nat.le_of_ble_eq_true rfl) rfl ?_
                refine ex_bne rfl (fun h26 => ?_) (fun h26 => ?_)
                · refine ex_st 3 (pc' := 30) (ls' := [(0, xr 143), (1, xi (↑n)), (2, xi k)]) (st' := [xi (↑n), xr 144]) rfl ?_
                  refine ex_iald (j := n) rfl (by decide) (rfl : xSH[144]? = some _) (by omega) (by omega) (by decide) ?_
                  rw [hq]
                  refine ex_st 2 (pc' := 33) (ls' := [(3, xi 6), (0, xr 143), (1, xi (↑n)), (2, xi k)]) (st' := [xi k]) rfl ?_
                  refine ex_if rfl (by first | omega | (constructor <;> omega) | assumption) (fun (h27 : k = 0) => ?_) (fun (h27 : ¬ k = 0) => ?_)
                  · exfalso; omega
                  · refine ex_st 2 (pc' := 38) (ls' := [(3, xi 6), (0, xr 143), (1, xi (↑n)), (2, xi k)]) (st' := [xi k, xi 6]) rfl ?_
                    refine ex_ic rfl (by decide) (by first | omega | (constructor <;> omega) | assumption) (fun (h28 : ((6 : Int)) = k) => ?_) (fun (h28 : ¬ ((6 : Int)) = k) => ?_)
                    · refine ex_st 2 (pc' := 78) (ls' := [(3, xi 6), (0, xr 143), (1, xi (↑n)), (2, xi k)]) (st' := [xi 6]) rfl ?_
                      refine ex_reti rfl rfl ?_
                      exact ⟨x_req (by first | rfl | omega), _, _, rfl, hR⟩
                    · exfalso; omega
                · exfalso; omega
              · exfalso; omega
          · exfalso; omega
        · exfalso; omega
    refine x_CQ.of (M := xM_G_taken) rfl (Nat.le_of_ble_eq_true rfl) ?_
    refine ex_st 1 (pc' := 1) (ls' := [(0, xr 0), (1, xi (↑n)), (2, xi k)]) (st' := [xi k]) rfl ?_
    refine ex_call (ct_G_isKind (by first | omega | (constructor <;> omega) | assumption)) (by decide) rfl ⟨rfl, rfl, rfl⟩ ⟨Nat.le_of_ble_eq_true rfl, rfl, rfl⟩ (Nat.le_of_ble_eq_true rfl) rfl ?_
    refine ex_bne rfl (fun h0 => ?_) (fun h0 => ?_)
    · exfalso; omega
    · refine ex_st 1 (pc' := 9) (ls' := [(0, xr 0), (1, xi (↑n)), (2, xi k)]) (st' := [xi (-2)]) rfl ?_
      refine ex_reti rfl rfl ?_
      refine x_CQ.of (M := xM_m_taken) rfl (Nat.le_of_ble_eq_true rfl) ?_
      refine ex_st 4 (pc' := 5) (ls' := [(0, xr 143), (1, xi (↑n)), (2, xi k)]) (st' := [xi 6, xi 0, xi k, xr 143]) rfl ?_
      refine ex_call (ct_m_in (by first | omega | (constructor <;> omega) | assumption) (by first | omega | (constructor <;> omega) | assumption) (by first | omega | (constructor <;> omega) | assumption)) (by decide) rfl ⟨rfl, rfl, rfl⟩ ⟨Nat.le_of_ble_eq_true rfl, rfl, rfl⟩ (Nat.le_of_ble_eq_true rfl) rfl ?_
      refine ex_bne rfl (fun h1 => ?_) (fun h1 => ?_)
      · exfalso; omega
      · refine ex_st 1 (pc' := 13) (ls' := [(0, xr 143), (1, xi (↑n)), (2, xi k)]) (st' := [xi (-2)]) rfl ?_
        refine ex_reti rfl rfl ?_
        exact ⟨x_req (by first | rfl | omega), _, _, rfl, hR⟩
  refine x_CQ.of (M := xM_G_taken) rfl (Nat.le_of_ble_eq_true rfl) ?_
  refine ex_st 1 (pc' := 1) (ls' := [(0, xr 0), (1, xi t), (2, xi k)]) (st' := [xi k]) rfl ?_
  refine ex_call (ct_G_isKind (by first | omega | (constructor <;> omega) | assumption)) (by decide) rfl ⟨rfl, rfl, rfl⟩ ⟨Nat.le_of_ble_eq_true rfl, rfl, rfl⟩ (Nat.le_of_ble_eq_true rfl) rfl ?_
  refine ex_bne rfl (fun h0 => ?_) (fun h0 => ?_)
  · refine ex_st 2 (pc' := 12) (ls' := [(0, xr 0), (1, xi t), (2, xi k)]) (st' := [xi t, xr 0]) rfl ?_
    refine ex_call (ct_G_isOfficial2 (c := I 1 1) (by first | omega | (constructor <;> omega) | assumption | ((repeat rw [x_up_far (by omega)]); first | rfl | omega | (constructor <;> omega))) (by (repeat rw [x_up_far (by omega)]); try rfl) (by first | omega | (constructor <;> omega) | assumption | ((repeat rw [x_up_far (by omega)]); first | rfl | omega | (constructor <;> omega)))) (by decide) rfl ⟨rfl, rfl, rfl⟩ ⟨Nat.le_of_ble_eq_true rfl, rfl, rfl⟩ (Nat.le_of_ble_eq_true rfl) rfl ?_
    refine ex_bne rfl (fun h1 => ?_) (fun h1 => ?_)
    · exfalso; omega
    · refine ex_st 1 (pc' := 20) (ls' := [(0, xr 0), (1, xi t), (2, xi k)]) (st' := [xi (-11)]) rfl ?_
      refine ex_reti rfl rfl ?_
      refine x_CQ.of (M := xM_m_taken) rfl (Nat.le_of_ble_eq_true rfl) ?_
      refine ex_st 4 (pc' := 5) (ls' := [(0, xr 143), (1, xi t), (2, xi k)]) (st' := [xi 6, xi 0, xi k, xr 143]) rfl ?_
      refine ex_call (ct_m_in (by first | omega | (constructor <;> omega) | assumption) (by first | omega | (constructor <;> omega) | assumption) (by first | omega | (constructor <;> omega) | assumption)) (by decide) rfl ⟨rfl, rfl, rfl⟩ ⟨Nat.le_of_ble_eq_true rfl, rfl, rfl⟩ (Nat.le_of_ble_eq_true rfl) rfl ?_
      refine ex_bne rfl (fun h2 => ?_) (fun h2 => ?_)
      · refine ex_st 2 (pc' := 16) (ls' := [(0, xr 143), (1, xi t), (2, xi k)]) (st' := [xi t, xr 143]) rfl ?_
        refine ex_call (ct_m_isOfficial2 (c := I 143 0) (by first | omega | (constructor <;> omega) | assumption | ((repeat rw [x_up_far (by omega)]); first | rfl | omega | (constructor <;> omega))) (by (repeat rw [x_up_far (by omega)]); try rfl) (by first | omega | (constructor <;> omega) | assumption | ((repeat rw [x_up_far (by omega)]); first | rfl | omega | (constructor <;> omega)))) (by decide) rfl ⟨rfl, rfl, rfl⟩ ⟨Nat.le_of_ble_eq_true rfl, rfl, rfl⟩ (Nat.le_of_ble_eq_true rfl) rfl ?_
        refine ex_bne rfl (fun h3 => ?_) (fun h3 => ?_)
        · exfalso; omega
        · refine ex_st 1 (pc' := 24) (ls' := [(0, xr 143), (1, xi t), (2, xi k)]) (st' := [xi (-11)]) rfl ?_
          refine ex_reti rfl rfl ?_
          exact ⟨x_req (by first | rfl | omega), _, _, rfl, hR⟩
      · exfalso; omega
  · refine ex_st 1 (pc' := 9) (ls' := [(0, xr 0), (1, xi t), (2, xi k)]) (st' := [xi (-2)]) rfl ?_
    refine ex_reti rfl rfl ?_
    refine x_CQ.of (M := xM_m_taken) rfl (Nat.le_of_ble_eq_true rfl) ?_
    refine ex_st 4 (pc' := 5) (ls' := [(0, xr 143), (1, xi t), (2, xi k)]) (st' := [xi 6, xi 0, xi k, xr 143]) rfl ?_
    refine ex_call (ct_m_in (by first | omega | (constructor <;> omega) | assumption) (by first | omega | (constructor <;> omega) | assumption) (by first | omega | (constructor <;> omega) | assumption)) (by decide) rfl ⟨rfl, rfl, rfl⟩ ⟨Nat.le_of_ble_eq_true rfl, rfl, rfl⟩ (Nat.le_of_ble_eq_true rfl) rfl ?_
    refine ex_bne rfl (fun h4 => ?_) (fun h4 => ?_)
    · exfalso; omega
    · refine ex_st 1 (pc' := 13) (ls' := [(0, xr 143), (1, xi t), (2, xi k)]) (st' := [xi (-2)]) rfl ?_
      refine ex_reti rfl rfl ?_
      exact ⟨x_req (by first | rfl | omega), _, _, rfl, hR⟩
