/-! pairs of calls: base, row, count, taken, trace -/
theorem op_base {sc : List Int} {I : Nat → Nat → Int} {L : Nat → Nat → Int64} (hR : Rl I L) {t x w : Int} (ht : x_R t) (hx0 : x_R x) (hw : x_R w) : x_PQ sc xN_G_base [xr 0, xi t, xi x, xi w] xN_m_base [xr 143, xi t, xi x, xi w] (xSH, I, L) := by
  obtain ⟨⟨hNs, hNo, hNa, hNb, hNr, hNd, hNg, hNe, hNp, hNk⟩, hI, hT, hX, hC, hH, hQ⟩ := id hR
  have hs := hNs
  unfold RNs at hs
  by_cases hv : 0 ≤ t ∧ t < I 1 1
  · obtain ⟨n, rfl⟩ := Int.eq_ofNat_of_zero_le hv.1
    have ho := hNb n
    by_cases hx : 0 ≤ x ∧ x < 5
    · obtain ⟨y, rfl⟩ := Int.eq_ofNat_of_zero_le hx.1
      have ho := ho y (by omega) (by omega)
      refine x_CQ.of (M := xM_G_base) rfl (Nat.le_of_ble_eq_true rfl) ?_
      refine ex_st 2 (pc' := 2) (ls' := [(0, xr 0), (1, xi (↑n)), (2, xi (↑y)), (3, xi w)]) (st' := [xi (↑n), xr 0]) rfl ?_
      refine ex_call (ct_G_isOfficial2 (c := I 1 1) (by first | omega | (constructor <;> omega) | assumption | ((repeat rw [x_up_far (by omega)]); first | rfl | omega | (constructor <;> omega))) (by (repeat rw [x_up_far (by omega)]); try rfl) (by first | omega | (constructor <;> omega) | assumption | ((repeat rw [x_up_far (by omega)]); first | rfl | omega | (constructor <;> omega)))) (by decide) rfl ⟨rfl, rfl, rfl⟩ ⟨Nat.le_of_ble_eq_true rfl, rfl, rfl⟩ (Nat.le_of_ble_eq_true rfl) rfl ?_
      refine ex_beq rfl (fun h0 => ?_) (fun h0 => ?_)
      · exfalso; omega
      · refine ex_st 1 (pc' := 9) (ls' := [(0, xr 0), (1, xi (↑n)), (2, xi (↑y)), (3, xi w)]) (st' := [xi (↑y)]) rfl ?_
        refine ex_call (ct_G_isThing (by first | omega | (constructor <;> omega) | assumption)) (by decide) rfl ⟨rfl, rfl, rfl⟩ ⟨Nat.le_of_ble_eq_true rfl, rfl, rfl⟩ (Nat.le_of_ble_eq_true rfl) rfl ?_
        refine ex_bne rfl (fun h1 => ?_) (fun h1 => ?_)
        · refine ex_st 1 (pc' := 18) (ls' := [(0, xr 0), (1, xi (↑n)), (2, xi (↑y)), (3, xi w)]) (st' := [xi w]) rfl ?_
          refine ex_call (ct_G_isDigit (by first | omega | (constructor <;> omega) | assumption)) (by decide) rfl ⟨rfl, rfl, rfl⟩ ⟨Nat.le_of_ble_eq_true rfl, rfl, rfl⟩ (Nat.le_of_ble_eq_true rfl) rfl ?_
          refine ex_bne rfl (fun h2 => ?_) (fun h2 => ?_)
          · refine ex_st 4 (pc' := 35) (ls' := [(0, xr 0), (1, xi (↑n)), (2, xi (↑y)), (3, xi w)]) (st' := [xi (↑n), xr 2]) rfl ?_
            refine ex_aald (q := 11 + 3 * n) (j := n) rfl (by decide) (rfl : xSH[2]? = some _) (by decide) (by omega) (by omega) (by decide) (x_aa2 n (by omega)) (by omega) ?_
            refine ex_st 2 (pc' := 40) (ls' := [(4, xr (11 + 3 * n)), (0, xr 0), (1, xi (↑n)), (2, xi (↑y)), (3, xi w)]) (st' := [xr (11 + 3 * n)]) rfl ?_
            refine ex_gfr rfl (by omega) (x_so1 n (by omega)).1 (by decide) (by decide) rfl ?_
            refine ex_st 1 (pc' := 44) (ls' := [(4, xr (11 + 3 * n)), (0, xr 0), (1, xi (↑n)), (2, xi (↑y)), (3, xi w)]) (st' := [xi (↑y), xr (11 + 3 * n + 1)]) rfl ?_
            refine ex_iald (j := y) rfl (by omega) (x_so1 n (by omega)).2.1 (by omega) (by omega) (by decide) ?_
            refine ex_st 2 (pc' := 49) (ls' := [(5, xi (I (11 + 3 * n + 1) y)), (4, xr (11 + 3 * n)), (0, xr 0), (1, xi (↑n)), (2, xi (↑y)), (3, xi w)]) (st' := [xr (11 + 3 * n)]) rfl ?_
            refine ex_gfr rfl (by omega) (x_so1 n (by omega)).1 (by decide) (by decide) rfl ?_
            refine ex_st 2 (pc' := 54) (ls' := [(5, xi (I (11 + 3 * n + 1) y)), (4, xr (11 + 3 * n)), (0, xr 0), (1, xi (↑n)), (2, xi (↑y)), (3, xi w)]) (st' := [xi w, xi (↑y), xr (11 + 3 * n + 1)]) rfl ?_
            refine ex_iast (j := y) rfl (by omega) (x_so1 n (by omega)).2.1 (by omega) (by omega) (by decide) ?_
            refine ex_st 1 (pc' := 57) (ls' := [(5, xi (I (11 + 3 * n + 1) y)), (4, xr (11 + 3 * n)), (0, xr 0), (1, xi (↑n)), (2, xi (↑y)), (3, xi w)]) (st' := [xi (I (11 + 3 * n + 1) y)]) rfl ?_
            refine ex_reti rfl rfl ?_
            refine x_CQ.of (M := xM_m_base) rfl (Nat.le_of_ble_eq_true rfl) ?_
            refine ex_st 2 (pc' := 2) (ls' := [(0, xr 143), (1, xi (↑n)), (2, xi (↑y)), (3, xi w)]) (st' := [xi (↑n), xr 143]) rfl ?_
            refine ex_call (ct_m_isOfficial2 (c := I 143 0) (by first | omega | (constructor <;> omega) | assumption | ((repeat rw [x_up_far (by omega)]); first | rfl | omega | (constructor <;> omega))) (by (repeat rw [x_up_far (by omega)]); try rfl) (by first | omega | (constructor <;> omega) | assumption | ((repeat rw [x_up_far (by omega)]); first | rfl | omega | (constructor <;> omega)))) (by decide) rfl ⟨rfl, rfl, rfl⟩ ⟨Nat.le_of_ble_eq_true rfl, rfl, rfl⟩ (Nat.le_of_ble_eq_true rfl) rfl ?_
            refine ex_beq rfl (fun h3 => ?_) (fun h3 => ?_)
            · exfalso; omega
            · refine ex_st 2 (pc' := 10) (ls' := [(0, xr 143), (1, xi (↑n)), (2, xi (↑y)), (3, xi w)]) (st' := [xi (↑y), xr 143]) rfl ?_
              refine ex_call (ct_m_isThing (by first | omega | (constructor <;> omega) | assumption)) (by decide) rfl ⟨rfl, rfl, rfl⟩ ⟨Nat.le_of_ble_eq_true rfl, rfl, rfl⟩ (Nat.le_of_ble_eq_true rfl) rfl ?_
              refine ex_bne rfl (fun h4 => ?_) (fun h4 => ?_)
              · refine ex_st 2 (pc' := 20) (ls' := [(0, xr 143), (1, xi (↑n)), (2, xi (↑y)), (3, xi w)]) (st' := [xi w, xr 143]) rfl ?_
                refine ex_call (ct_m_isDigitNumber (by first | omega | (constructor <;> omega) | assumption)) (by decide) rfl ⟨rfl, rfl, rfl⟩ ⟨Nat.le_of_ble_eq_true rfl, rfl, rfl⟩ (Nat.le_of_ble_eq_true rfl) rfl ?_
                refine ex_bne rfl (fun h5 => ?_) (fun h5 => ?_)
                · refine ex_st 7 (pc' := 38) (ls' := [(0, xr 143), (1, xi (↑n)), (2, xi (↑y)), (3, xi w)]) (st' := [xi ((5 * (↑n)) + (↑y)), xr 147]) rfl ?_
                  refine ex_iald (j := ((5 * (n)) + (y))) rfl (by decide) (rfl : xSH[147]? = some _) (by omega) (by omega) (by decide) ?_
                  rw [(x_up_far (by first | decide | omega) : (x_up I (11 + 3 * n + 1) y w) 147 ((5 * (n)) + (y)) = I 147 ((5 * (n)) + (y)))]
                  refine ex_st 9 (pc' := 51) (ls' := [(4, xi (I 147 ((5 * (n)) + (y)))), (0, xr 143), (1, xi (↑n)), (2, xi (↑y)), (3, xi w)]) (st' := [xi w, xi ((5 * (↑n)) + (↑y)), xr 147]) rfl ?_
                  refine ex_iast (j := ((5 * (n)) + (y))) rfl (by decide) (rfl : xSH[147]? = some _) (by omega) (by omega) (by decide) ?_
                  refine ex_st 1 (pc' := 54) (ls' := [(4, xi (I 147 ((5 * (n)) + (y)))), (0, xr 143), (1, xi (↑n)), (2, xi (↑y)), (3, xi w)]) (st' := [xi (I 147 ((5 * (n)) + (y)))]) rfl ?_
                  refine ex_reti rfl rfl ?_
                  refine ⟨x_req (by first | rfl | omega), ?_⟩
                  refine ⟨_, _, rfl, ?_⟩
                  have hI2 : RIw (x_up (x_up I (11 + 3 * n + 1) y w) 147 ((5 * (n)) + (y)) w) := by
                    obtain ⟨gs, go, ga, gb, gr, gd, gg, ge, gp, gk⟩ := id hI
                    exact ⟨gs.fr ⟨by (repeat rw [x_up_far (by omega)]); try rfl, by (repeat rw [x_up_far (by omega)]); try rfl, by (repeat rw [x_up_far (by omega)]); try rfl, by (repeat rw [x_up_far (by omega)]); try rfl, by (repeat rw [x_up_far (by omega)]); try rfl, by (repeat rw [x_up_far (by omega)]); try rfl, by (repeat rw [x_up_far (by omega)]); try rfl, by (repeat rw [x_up_far (by omega)]); try rfl, by (repeat rw [x_up_far (by omega)]); try rfl⟩, go.fr (by intros; (repeat rw [x_up_far (by omega)]); try rfl) (by intros; (repeat rw [x_up_far (by omega)]); try rfl), ga.fr (by intros; (repeat rw [x_up_far (by omega)]); try rfl) (by (repeat rw [x_up_far (by omega)]); try rfl), gb.fr (by intros; (repeat rw [x_up_far (by omega)]); try rfl) (by intros; (repeat rw [x_up_far (by omega)]); try rfl), gr.fr (by intros; (repeat rw [x_up_far (by omega)]); try rfl) (by intros; (repeat rw [x_up_far (by omega)]); try rfl), gd.fr (by intros; (repeat rw [x_up_far (by omega)]); try rfl) (by intros; (repeat rw [x_up_far (by omega)]); try rfl) (by (repeat rw [x_up_far (by omega)]); try rfl), gg.fr ⟨by (repeat rw [x_up_far (by omega)]); try rfl, by (repeat rw [x_up_far (by omega)]); try rfl⟩ (by intros; (repeat rw [x_up_far (by omega)]); try rfl) (by intros; (repeat rw [x_up_far (by omega)]); try rfl), ge.fr ⟨by (repeat rw [x_up_far (by omega)]); try rfl, by (repeat rw [x_up_far (by omega)]); try rfl, by (repeat rw [x_up_far (by omega)]); try rfl⟩ (by intros; (repeat rw [x_up_far (by omega)]); try rfl) (by intros; (repeat rw [x_up_far (by omega)]); try rfl), gp.fr ⟨by (repeat rw [x_up_far (by omega)]); try rfl, by (repeat rw [x_up_far (by omega)]); try rfl, by (repeat rw [x_up_far (by omega)]); try rfl⟩ (by intros; (repeat rw [x_up_far (by omega)]); try rfl) (by intros; (repeat rw [x_up_far (by omega)]); try rfl), gk.fr ⟨by (repeat rw [x_up_far (by omega)]); try rfl, by (repeat rw [x_up_far (by omega)]); try rfl, by (repeat rw [x_up_far (by omega)]); try rfl⟩ (by intros; (repeat rw [x_up_far (by omega)]); try rfl) (by intros; (repeat rw [x_up_far (by omega)]); try rfl)⟩
                  refine ⟨⟨hNs.fr ⟨by (repeat rw [x_up_far (by omega)]); try rfl, by (repeat rw [x_up_far (by omega)]); try rfl, by (repeat rw [x_up_far (by omega)]); try rfl, by (repeat rw [x_up_far (by omega)]); try rfl, by (repeat rw [x_up_far (by omega)]); try rfl, by (repeat rw [x_up_far (by omega)]); try rfl, by (repeat rw [x_up_far (by omega)]); try rfl, by (repeat rw [x_up_far (by omega)]); try rfl, by (repeat rw [x_up_far (by omega)]); try rfl⟩, hNo.fr (by intros; (repeat rw [x_up_far (by omega)]); try rfl) (by intros; (repeat rw [x_up_far (by omega)]); try rfl), hNa.fr (by intros; (repeat rw [x_up_far (by omega)]); try rfl) (by (repeat rw [x_up_far (by omega)]); try rfl), ?_, hNr.fr (by intros; (repeat rw [x_up_far (by omega)]); try rfl) (by intros; (repeat rw [x_up_far (by omega)]); try rfl), hNd.fr (by intros; (repeat rw [x_up_far (by omega)]); try rfl) (by intros; (repeat rw [x_up_far (by omega)]); try rfl) (by (repeat rw [x_up_far (by omega)]); try rfl), hNg.fr ⟨by (repeat rw [x_up_far (by omega)]); try rfl, by (repeat rw [x_up_far (by omega)]); try rfl⟩ (by intros; (repeat rw [x_up_far (by omega)]); try rfl) (by intros; (repeat rw [x_up_far (by omega)]); try rfl), hNe.fr ⟨by (repeat rw [x_up_far (by omega)]); try rfl, by (repeat rw [x_up_far (by omega)]); try rfl, by (repeat rw [x_up_far (by omega)]); try rfl⟩ (by intros; (repeat rw [x_up_far (by omega)]); try rfl) (by intros; (repeat rw [x_up_far (by omega)]); try rfl), hNp.fr ⟨by (repeat rw [x_up_far (by omega)]); try rfl, by (repeat rw [x_up_far (by omega)]); try rfl, by (repeat rw [x_up_far (by omega)]); try rfl⟩ (by intros; (repeat rw [x_up_far (by omega)]); try rfl) (by intros; (repeat rw [x_up_far (by omega)]); try rfl), hNk.fr ⟨by (repeat rw [x_up_far (by omega)]); try rfl, by (repeat rw [x_up_far (by omega)]); try rfl, by (repeat rw [x_up_far (by omega)]); try rfl⟩ (by intros; (repeat rw [x_up_far (by omega)]); try rfl) (by intros; (repeat rw [x_up_far (by omega)]); try rfl)⟩, hI2, hT.fr ⟨by (repeat rw [x_up_far (by omega)]); try rfl, by (repeat rw [x_up_far (by omega)]); try rfl⟩ (by intros; (repeat rw [x_up_far (by omega)]); try rfl) (by intros; (repeat rw [x_up_far (by omega)]); try rfl) (by intros; (repeat rw [x_up_far (by omega)]); try rfl), hX.fr ⟨by (repeat rw [x_up_far (by omega)]); try rfl, by (repeat rw [x_up_far (by omega)]); try rfl⟩ (by intros; (repeat rw [x_up_far (by omega)]); try rfl), hC.fr ⟨by (repeat rw [x_up_far (by omega)]); try rfl, by (repeat rw [x_up_far (by omega)]); try rfl⟩ (by intros; (repeat rw [x_up_far (by omega)]); try rfl), hH.fr ⟨by (repeat rw [x_up_far (by omega)]); try rfl, by (repeat rw [x_up_far (by omega)]); try rfl, by (repeat rw [x_up_far (by omega)]); try rfl⟩ (by intros; (repeat rw [x_up_far (by omega)]); try rfl) (by intros; (repeat rw [x_up_far (by omega)]); try rfl), hQ.fr (by intros; (repeat rw [x_up_far (by omega)]); try rfl) (by intros; (repeat rw [x_up_far (by omega)]); try rfl) (by intros; (repeat rw [x_up_far (by omega)]); try rfl) (by intros; (repeat rw [x_up_far (by omega)]); try rfl)⟩
                  · intro p q hp hq
                    have h := hNb p q hp hq
                    by_cases hpn : p = n ∧ q = y
                    · obtain ⟨rfl, rfl⟩ := hpn; simp [x_up] at *; omega
                    · repeat rw [x_up_far (by omega)]
                      exact h
                · exfalso; omega
              · exfalso; omega
          · refine ex_st 1 (pc' := 26) (ls' := [(0, xr 0), (1, xi (↑n)), (2, xi (↑y)), (3, xi w)]) (st' := [xi (-2)]) rfl ?_
            refine ex_reti rfl rfl ?_
            refine x_CQ.of (M := xM_m_base) rfl (Nat.le_of_ble_eq_true rfl) ?_
            refine ex_st 2 (pc' := 2) (ls' := [(0, xr 143), (1, xi (↑n)), (2, xi (↑y)), (3, xi w)]) (st' := [xi (↑n), xr 143]) rfl ?_
            refine ex_call (ct_m_isOfficial2 (c := I 143 0) (by first | omega | (constructor <;> omega) | assumption | ((repeat rw [x_up_far (by omega)]); first | rfl | omega | (constructor <;> omega))) (by (repeat rw [x_up_far (by omega)]); try rfl) (by first | omega | (constructor <;> omega) | assumption | ((repeat rw [x_up_far (by omega)]); first | rfl | omega | (constructor <;> omega)))) (by decide) rfl ⟨rfl, rfl, rfl⟩ ⟨Nat.le_of_ble_eq_true rfl, rfl, rfl⟩ (Nat.le_of_ble_eq_true rfl) rfl ?_
            refine ex_beq rfl (fun h6 => ?_) (fun h6 => ?_)
            · exfalso; omega
            · refine ex_st 2 (pc' := 10) (ls' := [(0, xr 143), (1, xi (↑n)), (2, xi (↑y)), (3, xi w)]) (st' := [xi (↑y), xr 143]) rfl ?_
              refine ex_call (ct_m_isThing (by first | omega | (constructor <;> omega) | assumption)) (by decide) rfl ⟨rfl, rfl, rfl⟩ ⟨Nat.le_of_ble_eq_true rfl, rfl, rfl⟩ (Nat.le_of_ble_eq_true rfl) rfl ?_
              refine ex_bne rfl (fun h7 => ?_) (fun h7 => ?_)
              · refine ex_st 2 (pc' := 20) (ls' := [(0, xr 143), (1, xi (↑n)), (2, xi (↑y)), (3, xi w)]) (st' := [xi w, xr 143]) rfl ?_
                refine ex_call (ct_m_isDigitNumber (by first | omega | (constructor <;> omega) | assumption)) (by decide) rfl ⟨rfl, rfl, rfl⟩ ⟨Nat.le_of_ble_eq_true rfl, rfl, rfl⟩ (Nat.le_of_ble_eq_true rfl) rfl ?_
                refine ex_bne rfl (fun h8 => ?_) (fun h8 => ?_)
                · exfalso; omega
                · refine ex_st 1 (pc' := 28) (ls' := [(0, xr 143), (1, xi (↑n)), (2, xi (↑y)), (3, xi w)]) (st' := [xi (-2)]) rfl ?_
                  refine ex_reti rfl rfl ?_
                  exact ⟨x_req (by first | rfl | omega), _, _, rfl, hR⟩
              · exfalso; omega
        · exfalso; omega
    refine x_CQ.of (M := xM_G_base) rfl (Nat.le_of_ble_eq_true rfl) ?_
    refine ex_st 2 (pc' := 2) (ls' := [(0, xr 0), (1, xi (↑n)), (2, xi x), (3, xi w)]) (st' := [xi (↑n), xr 0]) rfl ?_
    refine ex_call (ct_G_isOfficial2 (c := I 1 1) (by first | omega | (constructor <;> omega) | assumption | ((repeat rw [x_up_far (by omega)]); first | rfl | omega | (constructor <;> omega))) (by (repeat rw [x_up_far (by omega)]); try rfl) (by first | omega | (constructor <;> omega) | assumption | ((repeat rw [x_up_far (by omega)]); first | rfl | omega | (constructor <;> omega)))) (by decide) rfl ⟨rfl, rfl, rfl⟩ ⟨Nat.le_of_ble_eq_true rfl, rfl, rfl⟩ (Nat.le_of_ble_eq_true rfl) rfl ?_
    refine ex_beq rfl (fun h0 => ?_) (fun h0 => ?_)
    · exfalso; omega
    · refine ex_st 1 (pc' := 9) (ls' := [(0, xr 0), (1, xi (↑n)), (2, xi x), (3, xi w)]) (st' := [xi x]) rfl ?_
      refine ex_call (ct_G_isThing (by first | omega | (constructor <;> omega) | assumption)) (by decide) rfl ⟨rfl, rfl, rfl⟩ ⟨Nat.le_of_ble_eq_true rfl, rfl, rfl⟩ (Nat.le_of_ble_eq_true rfl) rfl ?_
      refine ex_bne rfl (fun h1 => ?_) (fun h1 => ?_)
      · exfalso; omega
      · refine ex_st 1 (pc' := 16) (ls' := [(0, xr 0), (1, xi (↑n)), (2, xi x), (3, xi w)]) (st' := [xi (-1)]) rfl ?_
        refine ex_reti rfl rfl ?_
        refine x_CQ.of (M := xM_m_base) rfl (Nat.le_of_ble_eq_true rfl) ?_
        refine ex_st 2 (pc' := 2) (ls' := [(0, xr 143), (1, xi (↑n)), (2, xi x), (3, xi w)]) (st' := [xi (↑n), xr 143]) rfl ?_
        refine ex_call (ct_m_isOfficial2 (c := I 143 0) (by first | omega | (constructor <;> omega) | assumption | ((repeat rw [x_up_far (by omega)]); first | rfl | omega | (constructor <;> omega))) (by (repeat rw [x_up_far (by omega)]); try rfl) (by first | omega | (constructor <;> omega) | assumption | ((repeat rw [x_up_far (by omega)]); first | rfl | omega | (constructor <;> omega)))) (by decide) rfl ⟨rfl, rfl, rfl⟩ ⟨Nat.le_of_ble_eq_true rfl, rfl, rfl⟩ (Nat.le_of_ble_eq_true rfl) rfl ?_
        refine ex_beq rfl (fun h2 => ?_) (fun h2 => ?_)
        · exfalso; omega
        · refine ex_st 2 (pc' := 10) (ls' := [(0, xr 143), (1, xi (↑n)), (2, xi x), (3, xi w)]) (st' := [xi x, xr 143]) rfl ?_
          refine ex_call (ct_m_isThing (by first | omega | (constructor <;> omega) | assumption)) (by decide) rfl ⟨rfl, rfl, rfl⟩ ⟨Nat.le_of_ble_eq_true rfl, rfl, rfl⟩ (Nat.le_of_ble_eq_true rfl) rfl ?_
          refine ex_bne rfl (fun h3 => ?_) (fun h3 => ?_)
          · exfalso; omega
          · refine ex_st 1 (pc' := 17) (ls' := [(0, xr 143), (1, xi (↑n)), (2, xi x), (3, xi w)]) (st' := [xi (-1)]) rfl ?_
            refine ex_reti rfl rfl ?_
            exact ⟨x_req (by first | rfl | omega), _, _, rfl, hR⟩
  refine x_CQ.of (M := xM_G_base) rfl (Nat.le_of_ble_eq_true rfl) ?_
  refine ex_st 2 (pc' := 2) (ls' := [(0, xr 0), (1, xi t), (2, xi x), (3, xi w)]) (st' := [xi t, xr 0]) rfl ?_
  refine ex_call (ct_G_isOfficial2 (c := I 1 1) (by first | omega | (constructor <;> omega) | assumption | ((repeat rw [x_up_far (by omega)]); first | rfl | omega | (constructor <;> omega))) (by (repeat rw [x_up_far (by omega)]); try rfl) (by first | omega | (constructor <;> omega) | assumption | ((repeat rw [x_up_far (by omega)]); first | rfl | omega | (constructor <;> omega)))) (by decide) rfl ⟨rfl, rfl, rfl⟩ ⟨Nat.le_of_ble_eq_true rfl, rfl, rfl⟩ (Nat.le_of_ble_eq_true rfl) rfl ?_
  refine ex_beq rfl (fun h0 => ?_) (fun h0 => ?_)
  · refine ex_st 1 (pc' := 16) (ls' := [(0, xr 0), (1, xi t), (2, xi x), (3, xi w)]) (st' := [xi (-1)]) rfl ?_
    refine ex_reti rfl rfl ?_
    refine x_CQ.of (M := xM_m_base) rfl (Nat.le_of_ble_eq_true rfl) ?_
    refine ex_st 2 (pc' := 2) (ls' := [(0, xr 143), (1, xi t), (2, xi x), (3, xi w)]) (st' := [xi t, xr 143]) rfl ?_
    refine ex_call (ct_m_isOfficial2 (c := I 143 0) (by first | omega | (constructor <;> omega) | assumption | ((repeat rw [x_up_far (by omega)]); first | rfl | omega | (constructor <;> omega))) (by (repeat rw [x_up_far (by omega)]); try rfl) (by first | omega | (constructor <;> omega) | assumption | ((repeat rw [x_up_far (by omega)]); first | rfl | omega | (constructor <;> omega)))) (by decide) rfl ⟨rfl, rfl, rfl⟩ ⟨Nat.le_of_ble_eq_true rfl, rfl, rfl⟩ (Nat.le_of_ble_eq_true rfl) rfl ?_
    refine ex_beq rfl (fun h1 => ?_) (fun h1 => ?_)
    · refine ex_st 1 (pc' := 17) (ls' := [(0, xr 143), (1, xi t), (2, xi x), (3, xi w)]) (st' := [xi (-1)]) rfl ?_
      refine ex_reti rfl rfl ?_
      exact ⟨x_req (by first | rfl | omega), _, _, rfl, hR⟩
    · exfalso; omega
  · exfalso; omega
theorem op_row {sc : List Int} {I : Nat → Nat → Int} {L : Nat → Nat → Int64} (hR : Rl I L) {t x w : Int} (ht : x_R t) (hx0 : x_R x) (hw : x_R w) : x_PQ sc xN_G_row [xr 0, xi t, xi x, xi w] xN_m_row [xr 143, xi t, xi x, xi w] (xSH, I, L) := by
  obtain ⟨⟨hNs, hNo, hNa, hNb, hNr, hNd, hNg, hNe, hNp, hNk⟩, hI, hT, hX, hC, hH, hQ⟩ := id hR
  have hs := hNs
  unfold RNs at hs
  by_cases hv : 0 ≤ t ∧ t < I 1 1
  · obtain ⟨n, rfl⟩ := Int.eq_ofNat_of_zero_le hv.1
    have ho := hNo n (by omega)
    have hr := hNr n
    by_cases hx : 0 ≤ x ∧ x < 4
    · obtain ⟨y, rfl⟩ := Int.eq_ofNat_of_zero_le hx.1
      have hr := hr y (by omega) (by omega)
      refine x_CQ.of (M := xM_G_row) rfl (Nat.le_of_ble_eq_true rfl) ?_
      refine ex_st 2 (pc' := 2) (ls' := [(0, xr 0), (1, xi (↑n)), (2, xi (↑y)), (3, xi w)]) (st' := [xi (↑n), xr 0]) rfl ?_
      refine ex_call (ct_G_isOfficial2 (c := I 1 1) (by first | omega | (constructor <;> omega) | assumption | ((repeat rw [x_up_far (by omega)]); first | rfl | omega | (constructor <;> omega))) (by (repeat rw [x_up_far (by omega)]); try rfl) (by first | omega | (constructor <;> omega) | assumption | ((repeat rw [x_up_far (by omega)]); first | rfl | omega | (constructor <;> omega)))) (by decide) rfl ⟨rfl, rfl, rfl⟩ ⟨Nat.le_of_ble_eq_true rfl, rfl, rfl⟩ (Nat.le_of_ble_eq_true rfl) rfl ?_
      refine ex_beq rfl (fun h0 => ?_) (fun h0 => ?_)
      · exfalso; omega
      · refine ex_st 1 (pc' := 9) (ls' := [(0, xr 0), (1, xi (↑n)), (2, xi (↑y)), (3, xi w)]) (st' := [xi (↑y)]) rfl ?_
        refine ex_if rfl (by first | omega | (constructor <;> omega) | assumption) (fun (h1 : (↑y : Int) < 0) => ?_) (fun (h1 : ¬ (↑y : Int) < 0) => ?_)
        · exfalso; omega
        · refine ex_st 2 (pc' := 14) (ls' := [(0, xr 0), (1, xi (↑n)), (2, xi (↑y)), (3, xi w)]) (st' := [xi 4, xi (↑y)]) rfl ?_
          refine ex_ic rfl (by first | omega | (constructor <;> omega) | assumption) (by decide) (fun (h2 : (↑y : Int) < 4) => ?_) (fun (h2 : ¬ (↑y : Int) < 4) => ?_)
          · refine ex_st 1 (pc' := 20) (ls' := [(0, xr 0), (1, xi (↑n)), (2, xi (↑y)), (3, xi w)]) (st' := [xi w]) rfl ?_
            refine ex_call (ct_G_isDigit (by first | omega | (constructor <;> omega) | assumption)) (by decide) rfl ⟨rfl, rfl, rfl⟩ ⟨Nat.le_of_ble_eq_true rfl, rfl, rfl⟩ (Nat.le_of_ble_eq_true rfl) rfl ?_
            refine ex_bne rfl (fun h3 => ?_) (fun h3 => ?_)
            · refine ex_st 4 (pc' := 37) (ls' := [(0, xr 0), (1, xi (↑n)), (2, xi (↑y)), (3, xi w)]) (st' := [xi (↑n), xr 2]) rfl ?_
              refine ex_aald (q := 11 + 3 * n) (j := n) rfl (by decide) (rfl : xSH[2]? = some _) (by decide) (by omega) (by omega) (by decide) (x_aa2 n (by omega)) (by omega) ?_
              refine ex_st 2 (pc' := 42) (ls' := [(4, xr (11 + 3 * n)), (0, xr 0), (1, xi (↑n)), (2, xi (↑y)), (3, xi w)]) (st' := [xr (11 + 3 * n)]) rfl ?_
              refine ex_gfi rfl (by omega) (x_so1 n (by omega)).1 (by decide) (by decide) rfl ?_
              refine ex_st 1 (pc' := 47) (ls' := [(4, xr (11 + 3 * n)), (0, xr 0), (1, xi (↑n)), (2, xi (↑y)), (3, xi w)]) (st' := [xi 6, xi (I (11 + 3 * n) 0)]) rfl ?_
              refine ex_ic rfl (by first | omega | (constructor <;> omega) | assumption) (by decide) (fun (h4 : (I (11 + 3 * n) 0) = 6) => ?_) (fun (h4 : ¬ (I (11 + 3 * n) 0) = 6) => ?_)
              · refine ex_st 1 (pc' := 55) (ls' := [(4, xr (11 + 3 * n)), (0, xr 0), (1, xi (↑n)), (2, xi (↑y)), (3, xi w)]) (st' := [xr (11 + 3 * n)]) rfl ?_
                refine ex_gfr rfl (by omega) (x_so1 n (by omega)).1 (by decide) (by decide) rfl ?_
                refine ex_st 1 (pc' := 59) (ls' := [(4, xr (11 + 3 * n)), (0, xr 0), (1, xi (↑n)), (2, xi (↑y)), (3, xi w)]) (st' := [xi (↑y), xr (11 + 3 * n + 2)]) rfl ?_
                refine ex_iald (j := y) rfl (by omega) (x_so1 n (by omega)).2.2 (by omega) (by omega) (by decide) ?_
                refine ex_st 2 (pc' := 64) (ls' := [(5, xi (I (11 + 3 * n + 2) y)), (4, xr (11 + 3 * n)), (0, xr 0), (1, xi (↑n)), (2, xi (↑y)), (3, xi w)]) (st' := [xr (11 + 3 * n)]) rfl ?_
                refine ex_gfr rfl (by omega) (x_so1 n (by omega)).1 (by decide) (by decide) rfl ?_
                refine ex_st 2 (pc' := 69) (ls' := [(5, xi (I (11 + 3 * n + 2) y)), (4, xr (11 + 3 * n)), (0, xr 0), (1, xi (↑n)), (2, xi (↑y)), (3, xi w)]) (st' := [xi w, xi (↑y), xr (11 + 3 * n + 2)]) rfl ?_
                refine ex_iast (j := y) rfl (by omega) (x_so1 n (by omega)).2.2 (by omega) (by omega) (by decide) ?_
                refine ex_st 1 (pc' := 72) (ls' := [(5, xi (I (11 + 3 * n + 2) y)), (4, xr (11 + 3 * n)), (0, xr 0), (1, xi (↑n)), (2, xi (↑y)), (3, xi w)]) (st' := [xi (I (11 + 3 * n + 2) y)]) rfl ?_
                refine ex_reti rfl rfl ?_
                refine x_CQ.of (M := xM_m_row) rfl (Nat.le_of_ble_eq_true rfl) ?_
                refine ex_st 2 (pc' := 2) (ls' := [(0, xr 143), (1, xi (↑n)), (2, xi (↑y)), (3, xi w)]) (st' := [xi (↑n), xr 143]) rfl ?_
                refine ex_call (ct_m_isOfficial2 (c := I 143 0) (by first | omega | (constructor <;> omega) | assumption | ((repeat rw [x_up_far (by omega)]); first | rfl | omega | (constructor <;> omega))) (by (repeat rw [x_up_far (by omega)]); try rfl) (by first | omega | (constructor <;> omega) | assumption | ((repeat rw [x_up_far (by omega)]); first | rfl | omega | (constructor <;> omega)))) (by decide) rfl ⟨rfl, rfl, rfl⟩ ⟨Nat.le_of_ble_eq_true rfl, rfl, rfl⟩ (Nat.le_of_ble_eq_true rfl) rfl ?_
                refine ex_beq rfl (fun h5 => ?_) (fun h5 => ?_)
                · exfalso; omega
                · refine ex_st 4 (pc' := 12) (ls' := [(0, xr 143), (1, xi (↑n)), (2, xi (↑y)), (3, xi w)]) (st' := [xi 3, xi 0, xi (↑y), xr 143]) rfl ?_
                  refine ex_call (ct_m_in (by first | omega | (constructor <;> omega) | assumption) (by first | omega | (constructor <;> omega) | assumption) (by first | omega | (constructor <;> omega) | assumption)) (by decide) rfl ⟨rfl, rfl, rfl⟩ ⟨Nat.le_of_ble_eq_true rfl, rfl, rfl⟩ (Nat.le_of_ble_eq_true rfl) rfl ?_
                  refine ex_bne rfl (fun h6 => ?_) (fun h6 => ?_)
                  · refine ex_st 2 (pc' := 22) (ls' := [(0, xr 143), (1, xi (↑n)), (2, xi (↑y)), (3, xi w)]) (st' := [xi w, xr 143]) rfl ?_
                    refine ex_call (ct_m_isDigitNumber (by first | omega | (constructor <;> omega) | assumption)) (by decide) rfl ⟨rfl, rfl, rfl⟩ ⟨Nat.le_of_ble_eq_true rfl, rfl, rfl⟩ (Nat.le_of_ble_eq_true rfl) rfl ?_
                    refine ex_bne rfl (fun h7 => ?_) (fun h7 => ?_)
                    · refine ex_st 3 (pc' := 36) (ls' := [(0, xr 143), (1, xi (↑n)), (2, xi (↑y)), (3, xi w)]) (st' := [xi (↑n), xr 144]) rfl ?_
                      refine ex_iald (j := n) rfl (by decide) (rfl : xSH[144]? = some _) (by omega) (by omega) (by decide) ?_
                      rw [(x_up_far (by first | decide | omega) : (x_up I (11 + 3 * n + 2) y w) 144 n = I 144 n)]
                      refine ex_st 1 (pc' := 39) (ls' := [(0, xr 143), (1, xi (↑n)), (2, xi (↑y)), (3, xi w)]) (st' := [xi 6, xi (I 144 n)]) rfl ?_
                      refine ex_ic rfl (by first | omega | (constructor <;> omega) | assumption) (by decide) (fun (h8 : (I 144 n) = 6) => ?_) (fun (h8 : ¬ (I 144 n) = 6) => ?_)
                      · refine ex_st 7 (pc' := 54) (ls' := [(0, xr 143), (1, xi (↑n)), (2, xi (↑y)), (3, xi w)]) (st' := [xi ((4 * (↑n)) + (↑y)), xr 148]) rfl ?_
                        refine ex_iald (j := ((4 * (n)) + (y))) rfl (by decide) (rfl : xSH[148]? = some _) (by omega) (by omega) (by decide) ?_
                        rw [(x_up_far (by first | decide | omega) : (x_up I (11 + 3 * n + 2) y w) 148 ((4 * (n)) + (y)) = I 148 ((4 * (n)) + (y)))]
                        refine ex_st 9 (pc' := 67) (ls' := [(4, xi (I 148 ((4 * (n)) + (y)))), (0, xr 143), (1, xi (↑n)), (2, xi (↑y)), (3, xi w)]) (st' := [xi w, xi ((4 * (↑n)) + (↑y)), xr 148]) rfl ?_
                        refine ex_iast (j := ((4 * (n)) + (y))) rfl (by decide) (rfl : xSH[148]? = some _) (by omega) (by omega) (by decide) ?_
                        refine ex_st 1 (pc' := 70) (ls' := [(4, xi (I 148 ((4 * (n)) + (y)))), (0, xr 143), (1, xi (↑n)), (2, xi (↑y)), (3, xi w)]) (st' := [xi (I 148 ((4 * (n)) + (y)))]) rfl ?_
                        refine ex_reti rfl rfl ?_
                        refine ⟨x_req (by first | rfl | omega), ?_⟩
                        refine ⟨_, _, rfl, ?_⟩
                        have hI2 : RIw (x_up (x_up I (11 + 3 * n + 2) y w) 148 ((4 * (n)) + (y)) w) := by
                          obtain ⟨gs, go, ga, gb, gr, gd, gg, ge, gp, gk⟩ := id hI
                          exact ⟨gs.fr ⟨by (repeat rw [x_up_far (by omega)]); try rfl, by (repeat rw [x_up_far (by omega)]); try rfl, by (repeat rw [x_up_far (by omega)]); try rfl, by (repeat rw [x_up_far (by omega)]); try rfl, by (repeat rw [x_up_far (by omega)]); try rfl, by (repeat rw [x_up_far (by omega)]); try rfl, by (repeat rw [x_up_far (by omega)]); try rfl, by (repeat rw [x_up_far (by omega)]); try rfl, by (repeat rw [x_up_far (by omega)]); try rfl⟩, go.fr (by intros; (repeat rw [x_up_far (by omega)]); try rfl) (by intros; (repeat rw [x_up_far (by omega)]); try rfl), ga.fr (by intros; (repeat rw [x_up_far (by omega)]); try rfl) (by (repeat rw [x_up_far (by omega)]); try rfl), gb.fr (by intros; (repeat rw [x_up_far (by omega)]); try rfl) (by intros; (repeat rw [x_up_far (by omega)]); try rfl), gr.fr (by intros; (repeat rw [x_up_far (by omega)]); try rfl) (by intros; (repeat rw [x_up_far (by omega)]); try rfl), gd.fr (by intros; (repeat rw [x_up_far (by omega)]); try rfl) (by intros; (repeat rw [x_up_far (by omega)]); try rfl) (by (repeat rw [x_up_far (by omega)]); try rfl), gg.fr ⟨by (repeat rw [x_up_far (by omega)]); try rfl, by (repeat rw [x_up_far (by omega)]); try rfl⟩ (by intros; (repeat rw [x_up_far (by omega)]); try rfl) (by intros; (repeat rw [x_up_far (by omega)]); try rfl), ge.fr ⟨by (repeat rw [x_up_far (by omega)]); try rfl, by (repeat rw [x_up_far (by omega)]); try rfl, by (repeat rw [x_up_far (by omega)]); try rfl⟩ (by intros; (repeat rw [x_up_far (by omega)]); try rfl) (by intros; (repeat rw [x_up_far (by omega)]); try rfl), gp.fr ⟨by (repeat rw [x_up_far (by omega)]); try rfl, by (repeat rw [x_up_far (by omega)]); try rfl, by (repeat rw [x_up_far (by omega)]); try rfl⟩ (by intros; (repeat rw [x_up_far (by omega)]); try rfl) (by intros; (repeat rw [x_up_far (by omega)]); try rfl), gk.fr ⟨by (repeat rw [x_up_far (by omega)]); try rfl, by (repeat rw [x_up_far (by omega)]); try rfl, by (repeat rw [x_up_far (by omega)]); try rfl⟩ (by intros; (repeat rw [x_up_far (by omega)]); try rfl) (by intros; (repeat rw [x_up_far (by omega)]); try rfl)⟩
                        refine ⟨⟨hNs.fr ⟨by (repeat rw [x_up_far (by omega)]); try rfl, by (repeat rw [x_up_far (by omega)]); try rfl, by (repeat rw [x_up_far (by omega)]); try rfl, by (repeat rw [x_up_far (by omega)]); try rfl, by (repeat rw [x_up_far (by omega)]); try rfl, by (repeat rw [x_up_far (by omega)]); try rfl, by (repeat rw [x_up_far (by omega)]); try rfl, by (repeat rw [x_up_far (by omega)]); try rfl, by (repeat rw [x_up_far (by omega)]); try rfl⟩, hNo.fr (by intros; (repeat rw [x_up_far (by omega)]); try rfl) (by intros; (repeat rw [x_up_far (by omega)]); try rfl), hNa.fr (by intros; (repeat rw [x_up_far (by omega)]); try rfl) (by (repeat rw [x_up_far (by omega)]); try rfl), hNb.fr (by intros; (repeat rw [x_up_far (by omega)]); try rfl) (by intros; (repeat rw [x_up_far (by omega)]); try rfl), ?_, hNd.fr (by intros; (repeat rw [x_up_far (by omega)]); try rfl) (by intros; (repeat rw [x_up_far (by omega)]); try rfl) (by (repeat rw [x_up_far (by omega)]); try rfl), hNg.fr ⟨by (repeat rw [x_up_far (by omega)]); try rfl, by (repeat rw [x_up_far (by omega)]); try rfl⟩ (by intros; (repeat rw [x_up_far (by omega)]); try rfl) (by intros; (repeat rw [x_up_far (by omega)]); try rfl), hNe.fr ⟨by (repeat rw [x_up_far (by omega)]); try rfl, by (repeat rw [x_up_far (by omega)]); try rfl, by (repeat rw [x_up_far (by omega)]); try rfl⟩ (by intros; (repeat rw [x_up_far (by omega)]); try rfl) (by intros; (repeat rw [x_up_far (by omega)]); try rfl), hNp.fr ⟨by (repeat rw [x_up_far (by omega)]); try rfl, by (repeat rw [x_up_far (by omega)]); try rfl, by (repeat rw [x_up_far (by omega)]); try rfl⟩ (by intros; (repeat rw [x_up_far (by omega)]); try rfl) (by intros; (repeat rw [x_up_far (by omega)]); try rfl), hNk.fr ⟨by (repeat rw [x_up_far (by omega)]); try rfl, by (repeat rw [x_up_far (by omega)]); try rfl, by (repeat rw [x_up_far (by omega)]); try rfl⟩ (by intros; (repeat rw [x_up_far (by omega)]); try rfl) (by intros; (repeat rw [x_up_far (by omega)]); try rfl)⟩, hI2, hT.fr ⟨by (repeat rw [x_up_far (by omega)]); try rfl, by (repeat rw [x_up_far (by omega)]); try rfl⟩ (by intros; (repeat rw [x_up_far (by omega)]); try rfl) (by intros; (repeat rw [x_up_far (by omega)]); try rfl) (by intros; (repeat rw [x_up_far (by omega)]); try rfl), hX.fr ⟨by (repeat rw [x_up_far (by omega)]); try rfl, by (repeat rw [x_up_far (by omega)]); try rfl⟩ (by intros; (repeat rw [x_up_far (by omega)]); try rfl), hC.fr ⟨by (repeat rw [x_up_far (by omega)]); try rfl, by (repeat rw [x_up_far (by omega)]); try rfl⟩ (by intros; (repeat rw [x_up_far (by omega)]); try rfl), hH.fr ⟨by (repeat rw [x_up_far (by omega)]); try rfl, by (repeat rw [x_up_far (by omega)]); try rfl, by (repeat rw [x_up_far (by omega)]); try rfl⟩ (by intros; (repeat rw [x_up_far (by omega)]); try rfl) (by intros; (repeat rw [x_up_far (by omega)]); try rfl), hQ.fr (by intros; (repeat rw [x_up_far (by omega)]); try rfl) (by intros; (repeat rw [x_up_far (by omega)]); try rfl) (by intros; (repeat rw [x_up_far (by omega)]); try rfl) (by intros; (repeat rw [x_up_far (by omega)]); try rfl)⟩
                        · intro p q hp hq
                          have h := hNr p q hp hq
                          by_cases hpn : p = n ∧ q = y
                          · obtain ⟨rfl, rfl⟩ := hpn; simp [x_up] at *; omega
                          · repeat rw [x_up_far (by omega)]
                            exact h
                      · exfalso; omega
                    · exfalso; omega
                  · exfalso; omega
              · refine ex_st 1 (pc' := 52) (ls' := [(4, xr (11 + 3 * n)), (0, xr 0), (1, xi (↑n)), (2, xi (↑y)), (3, xi w)]) (st' := [xi (-3)]) rfl ?_
                refine ex_reti rfl rfl ?_
                refine x_CQ.of (M := xM_m_row) rfl (Nat.le_of_ble_eq_true rfl) ?_
                refine ex_st 2 (pc' := 2) (ls' := [(0, xr 143), (1, xi (↑n)), (2, xi (↑y)), (3, xi w)]) (st' := [xi (↑n), xr 143]) rfl ?_
                refine ex_call (ct_m_isOfficial2 (c := I 143 0) (by first | omega | (constructor <;> omega) | assumption | ((repeat rw [x_up_far (by omega)]); first | rfl | omega | (constructor <;> omega))) (by (repeat rw [x_up_far (by omega)]); try rfl) (by first | omega | (constructor <;> omega) | assumption | ((repeat rw [x_up_far (by omega)]); first | rfl | omega | (constructor <;> omega)))) (by decide) rfl ⟨rfl, rfl, rfl⟩ ⟨Nat.le_of_ble_eq_true rfl, rfl, rfl⟩ (Nat.le_of_ble_eq_true rfl) rfl ?_
                refine ex_beq rfl (fun h9 => ?_) (fun h9 => ?_)
                · exfalso; omega
                · refine ex_st 4 (pc' := 12) (ls' := [(0, xr 143), (1, xi (↑n)), (2, xi (↑y)), (3, xi w)]) (st' := [xi 3, xi 0, xi (↑y), xr 143]) rfl ?_
                  refine ex_call (ct_m_in (by first | omega | (constructor <;> omega) | assumption) (by first | omega | (constructor <;> omega) | assumption) (by first | omega | (constructor <;> omega) | assumption)) (by decide) rfl ⟨rfl, rfl, rfl⟩ ⟨Nat.le_of_ble_eq_true rfl, rfl, rfl⟩ (Nat.le_of_ble_eq_true rfl) rfl ?_
                  refine ex_bne rfl (fun h10 => ?_) (fun h10 => ?_)
                  · refine ex_st 2 (pc' := 22) (ls' := [(0, xr 143), (1, xi (↑n)), (2, xi (↑y)), (3, xi w)]) (st' := [xi w, xr 143]) rfl ?_
                    refine ex_call (ct_m_isDigitNumber (by first | omega | (constructor <;> omega) | assumption)) (by decide) rfl ⟨rfl, rfl, rfl⟩ ⟨Nat.le_of_ble_eq_true rfl, rfl, rfl⟩ (Nat.le_of_ble_eq_true rfl) rfl ?_
                    refine ex_bne rfl (fun h11 => ?_) (fun h11 => ?_)
                    · refine ex_st 3 (pc' := 36) (ls' := [(0, xr 143), (1, xi (↑n)), (2, xi (↑y)), (3, xi w)]) (st' := [xi (↑n), xr 144]) rfl ?_
                      refine ex_iald (j := n) rfl (by decide) (rfl : xSH[144]? = some _) (by omega) (by omega) (by decide) ?_
                      refine ex_st 1 (pc' := 39) (ls' := [(0, xr 143), (1, xi (↑n)), (2, xi (↑y)), (3, xi w)]) (st' := [xi 6, xi (I 144 n)]) rfl ?_
                      refine ex_ic rfl (by first | omega | (constructor <;> omega) | assumption) (by decide) (fun (h12 : (I 144 n) = 6) => ?_) (fun (h12 : ¬ (I 144 n) = 6) => ?_)
                      · exfalso; omega
                      · refine ex_st 1 (pc' := 44) (ls' := [(0, xr 143), (1, xi (↑n)), (2, xi (↑y)), (3, xi w)]) (st' := [xi (-3)]) rfl ?_
                        refine ex_reti rfl rfl ?_
                        exact ⟨x_req (by first | rfl | omega), _, _, rfl, hR⟩
                    · exfalso; omega
                  · exfalso; omega
            · refine ex_st 1 (pc' := 28) (ls' := [(0, xr 0), (1, xi (↑n)), (2, xi (↑y)), (3, xi w)]) (st' := [xi (-2)]) rfl ?_
              refine ex_reti rfl rfl ?_
              refine x_CQ.of (M := xM_m_row) rfl (Nat.le_of_ble_eq_true rfl) ?_
              refine ex_st 2 (pc' := 2) (ls' := [(0, xr 143), (1, xi (↑n)), (2, xi (↑y)), (3, xi w)]) (st' := [xi (↑n), xr 143]) rfl ?_
              refine ex_call (ct_m_isOfficial2 (c := I 143 0) (by first | omega | (constructor <;> omega) | assumption | ((repeat rw [x_up_far (by omega)]); first | rfl | omega | (constructor <;> omega))) (by (repeat rw [x_up_far (by omega)]); try rfl) (by first | omega | (constructor <;> omega) | assumption | ((repeat rw [x_up_far (by omega)]); first | rfl | omega | (constructor <;> omega)))) (by decide) rfl ⟨rfl, rfl, rfl⟩ ⟨Nat.le_of_ble_eq_true rfl, rfl, rfl⟩ (Nat.le_of_ble_eq_true rfl) rfl ?_
              refine ex_beq rfl (fun h13 => ?_) (fun h13 => ?_)
              · exfalso; omega
              · refine ex_st 4 (pc' := 12) (ls' := [(0, xr 143), (1, xi (↑n)), (2, xi (↑y)), (3, xi w)]) (st' := [xi 3, xi 0, xi (↑y), xr 143]) rfl ?_
                refine ex_call (ct_m_in (by first | omega | (constructor <;> omega) | assumption) (by first | omega | (constructor <;> omega) | assumption) (by first | omega | (constructor <;> omega) | assumption)) (by decide) rfl ⟨rfl, rfl, rfl⟩ ⟨Nat.le_of_ble_eq_true rfl, rfl, rfl⟩ (Nat.le_of_ble_eq_true rfl) rfl ?_
                refine ex_bne rfl (fun h14 => ?_) (fun h14 => ?_)
                · refine ex_st 2 (pc' := 22) (ls' := [(0, xr 143), (1, xi (↑n)), (2, xi (↑y)), (3, xi w)]) (st' := [xi w, xr 143]) rfl ?_
                  refine ex_call (ct_m_isDigitNumber (by first | omega | (constructor <;> omega) | assumption)) (by decide) rfl ⟨rfl, rfl, rfl⟩ ⟨Nat.le_of_ble_eq_true rfl, rfl, rfl⟩ (Nat.le_of_ble_eq_true rfl) rfl ?_
                  refine ex_bne rfl (fun h15 => ?_) (fun h15 => ?_)
                  · exfalso; omega
                  · refine ex_st 1 (pc' := 30) (ls' := [(0, xr 143), (1, xi (↑n)), (2, xi (↑y)), (3, xi w)]) (st' := [xi (-2)]) rfl ?_
                    refine ex_reti rfl rfl ?_
                    exact ⟨x_req (by first | rfl | omega), _, _, rfl, hR⟩
                · exfalso; omega
          · exfalso; omega
    refine x_CQ.of (M := xM_G_row) rfl (Nat.le_of_ble_eq_true rfl) ?_
    refine ex_st 2 (pc' := 2) (ls' := [(0, xr 0), (1, xi (↑n)), (2, xi x), (3, xi w)]) (st' := [xi (↑n), xr 0]) rfl ?_
    refine ex_call (ct_G_isOfficial2 (c := I 1 1) (by first | omega | (constructor <;> omega) | assumption | ((repeat rw [x_up_far (by omega)]); first | rfl | omega | (constructor <;> omega))) (by (repeat rw [x_up_far (by omega)]); try rfl) (by first | omega | (constructor <;> omega) | assumption | ((repeat rw [x_up_far (by omega)]); first | rfl | omega | (constructor <;> omega)))) (by decide) rfl ⟨rfl, rfl, rfl⟩ ⟨Nat.le_of_ble_eq_true rfl, rfl, rfl⟩ (Nat.le_of_ble_eq_true rfl) rfl ?_
    refine ex_beq rfl (fun h0 => ?_) (fun h0 => ?_)
    · exfalso; omega
    · refine ex_st 1 (pc' := 9) (ls' := [(0, xr 0), (1, xi (↑n)), (2, xi x), (3, xi w)]) (st' := [xi x]) rfl ?_
      refine ex_if rfl (by first | omega | (constructor <;> omega) | assumption) (fun (h1 : x < 0) => ?_) (fun (h1 : ¬ x < 0) => ?_)
      · refine ex_st 1 (pc' := 18) (ls' := [(0, xr 0), (1, xi (↑n)), (2, xi x), (3, xi w)]) (st' := [xi (-1)]) rfl ?_
        refine ex_reti rfl rfl ?_
        refine x_CQ.of (M := xM_m_row) rfl (Nat.le_of_ble_eq_true rfl) ?_
        refine ex_st 2 (pc' := 2) (ls' := [(0, xr 143), (1, xi (↑n)), (2, xi x), (3, xi w)]) (st' := [xi (↑n), xr 143]) rfl ?_
        refine ex_call (ct_m_isOfficial2 (c := I 143 0) (by first | omega | (constructor <;> omega) | assumption | ((repeat rw [x_up_far (by omega)]); first | rfl | omega | (constructor <;> omega))) (by (repeat rw [x_up_far (by omega)]); try rfl) (by first | omega | (constructor <;> omega) | assumption | ((repeat rw [x_up_far (by omega)]); first | rfl | omega | (constructor <;> omega)))) (by decide) rfl ⟨rfl, rfl, rfl⟩ ⟨Nat.le_of_ble_eq_true rfl, rfl, rfl⟩ (Nat.le_of_ble_eq_true rfl) rfl ?_
        refine ex_beq rfl (fun h2 => ?_) (fun h2 => ?_)
        · exfalso; omega
        · refine ex_st 4 (pc' := 12) (ls' := [(0, xr 143), (1, xi (↑n)), (2, xi x), (3, xi w)]) (st' := [xi 3, xi 0, xi x, xr 143]) rfl ?_
          refine ex_call (ct_m_in (by first | omega | (constructor <;> omega) | assumption) (by first | omega | (constructor <;> omega) | assumption) (by first | omega | (constructor <;> omega) | assumption)) (by decide) rfl ⟨rfl, rfl, rfl⟩ ⟨Nat.le_of_ble_eq_true rfl, rfl, rfl⟩ (Nat.le_of_ble_eq_true rfl) rfl ?_
          refine ex_bne rfl (fun h3 => ?_) (fun h3 => ?_)
          · exfalso; omega
          · refine ex_st 1 (pc' := 19) (ls' := [(0, xr 143), (1, xi (↑n)), (2, xi x), (3, xi w)]) (st' := [xi (-1)]) rfl ?_
            refine ex_reti rfl rfl ?_
            exact ⟨x_req (by first | rfl | omega), _, _, rfl, hR⟩
      · refine ex_st 2 (pc' := 14) (ls' := [(0, xr 0), (1, xi (↑n)), (2, xi x), (3, xi w)]) (st' := [xi 4, xi x]) rfl ?_
        refine ex_ic rfl (by first | omega | (constructor <;> omega) | assumption) (by decide) (fun (h4 : x < 4) => ?_) (fun (h4 : ¬ x < 4) => ?_)
        · exfalso; omega
        · refine ex_st 1 (pc' := 18) (ls' := [(0, xr 0), (1, xi (↑n)), (2, xi x), (3, xi w)]) (st' := [xi (-1)]) rfl ?_
          refine ex_reti rfl rfl ?_
          refine x_CQ.of (M := xM_m_row) rfl (Nat.le_of_ble_eq_true rfl) ?_
          refine ex_st 2 (pc' := 2) (ls' := [(0, xr 143), (1, xi (↑n)), (2, xi x), (3, xi w)]) (st' := [xi (↑n), xr 143]) rfl ?_
          refine ex_call (ct_m_isOfficial2 (c := I 143 0) (by first | omega | (constructor <;> omega) | assumption | ((repeat rw [x_up_far (by omega)]); first | rfl | omega | (constructor <;> omega))) (by (repeat rw [x_up_far (by omega)]); try rfl) (by first | omega | (constructor <;> omega) | assumption | ((repeat rw [x_up_far (by omega)]); first | rfl | omega | (constructor <;> omega)))) (by decide) rfl ⟨rfl, rfl, rfl⟩ ⟨Nat.le_of_ble_eq_true rfl, rfl, rfl⟩ (Nat.le_of_ble_eq_true rfl) rfl ?_
          refine ex_beq rfl (fun h5 => ?_) (fun h5 => ?_)
          · exfalso; omega
          · refine ex_st 4 (pc' := 12) (ls' := [(0, xr 143), (1, xi (↑n)), (2, xi x), (3, xi w)]) (st' := [xi 3, xi 0, xi x, xr 143]) rfl ?_
            refine ex_call (ct_m_in (by first | omega | (constructor <;> omega) | assumption) (by first | omega | (constructor <;> omega) | assumption) (by first | omega | (constructor <;> omega) | assumption)) (by decide) rfl ⟨rfl, rfl, rfl⟩ ⟨Nat.le_of_ble_eq_true rfl, rfl, rfl⟩ (Nat.le_of_ble_eq_true rfl) rfl ?_
            refine ex_bne rfl (fun h6 => ?_) (fun h6 => ?_)
            · exfalso; omega
            · refine ex_st 1 (pc' := 19) (ls' := [(0, xr 143), (1, xi (↑n)), (2, xi x), (3, xi w)]) (st' := [xi (-1)]) rfl ?_
              refine ex_reti rfl rfl ?_
              exact ⟨x_req (by first | rfl | omega), _, _, rfl, hR⟩
  refine x_CQ.of (M := xM_G_row) rfl (Nat.le_of_ble_eq_true rfl) ?_
  refine ex_st 2 (pc' := 2) (ls' := [(0, xr 0), (1, xi t), (2, xi x), (3, xi w)]) (st' := [xi t, xr 0]) rfl ?_
  refine ex_call (ct_G_isOfficial2 (c := I 1 1) (by first | omega | (constructor <;> omega) | assumption | ((repeat rw [x_up_far (by omega)]); first | rfl | omega | (constructor <;> omega))) (by (repeat rw [x_up_far (by omega)]); try rfl) (by first | omega | (constructor <;> omega) | assumption | ((repeat rw [x_up_far (by omega)]); first | rfl | omega | (constructor <;> omega)))) (by decide) rfl ⟨rfl, rfl, rfl⟩ ⟨Nat.le_of_ble_eq_true rfl, rfl, rfl⟩ (Nat.le_of_ble_eq_true rfl) rfl ?_
  refine ex_beq rfl (fun h0 => ?_) (fun h0 => ?_)
  · refine ex_st 1 (pc' := 18) (ls' := [(0, xr 0), (1, xi t), (2, xi x), (3, xi w)]) (st' := [xi (-1)]) rfl ?_
    refine ex_reti rfl rfl ?_
    refine x_CQ.of (M := xM_m_row) rfl (Nat.le_of_ble_eq_true rfl) ?_
    refine ex_st 2 (pc' := 2) (ls' := [(0, xr 143), (1, xi t), (2, xi x), (3, xi w)]) (st' := [xi t, xr 143]) rfl ?_
    refine ex_call (ct_m_isOfficial2 (c := I 143 0) (by first | omega | (constructor <;> omega) | assumption | ((repeat rw [x_up_far (by omega)]); first | rfl | omega | (constructor <;> omega))) (by (repeat rw [x_up_far (by omega)]); try rfl) (by first | omega | (constructor <;> omega) | assumption | ((repeat rw [x_up_far (by omega)]); first | rfl | omega | (constructor <;> omega)))) (by decide) rfl ⟨rfl, rfl, rfl⟩ ⟨Nat.le_of_ble_eq_true rfl, rfl, rfl⟩ (Nat.le_of_ble_eq_true rfl) rfl ?_
    refine ex_beq rfl (fun h1 => ?_) (fun h1 => ?_)
    · refine ex_st 1 (pc' := 19) (ls' := [(0, xr 143), (1, xi t), (2, xi x), (3, xi w)]) (st' := [xi (-1)]) rfl ?_
      refine ex_reti rfl rfl ?_
      exact ⟨x_req (by first | rfl | omega), _, _, rfl, hR⟩
    · exfalso; omega
  · exfalso; omega
theorem op_count {sc : List Int} {I : Nat → Nat → Int} {L : Nat → Nat → Int64} (hR : Rl I L) {n : Int} (hn : x_R n) : x_PQ sc xN_G_count [xr 0, xi n] xN_m_count [xr 143, xi n] (xSH, I, L) := by
  obtain ⟨⟨hNs, hNo, hNa, hNb, hNr, hNd, hNg, hNe, hNp, hNk⟩, hI, hT, hX, hC, hH, hQ⟩ := id hR
  have hs := hNs
  unfold RNs at hs
  have hs2 := hNg
  unfold RNg at hs2
  have hs3 := hNe
  unfold RNe at hs3
  have hs4 := hNp
  unfold RNp at hs4
  have hs5 := hNk
  unfold RNk at hs5
  have hs6 := hX
  unfold RX at hs6
  have hs7 := hC
  unfold RC at hs7
  have hs8 := hT
  unfold RT at hs8
  refine x_CQ.of (M := xM_G_count) rfl (Nat.le_of_ble_eq_true rfl) ?_
  refine ex_st 1 (pc' := 1) (ls' := [(0, xr 0), (1, xi n)]) (st' := [xi n]) rfl ?_
  by_cases h0 : (n : Int) = 0
  · refine ex_top h0 ?_
    refine ex_st 1 (pc' := 48) (ls' := [(0, xr 0), (1, xi n)]) (st' := []) rfl ?_
    refine ex_st 3 (pc' := 55) (ls' := [(0, xr 0), (1, xi n)]) (st' := [xi (I 1 1)]) rfl ?_
    refine ex_reti rfl rfl ?_
    refine x_CQ.of (M := xM_m_count) rfl (Nat.le_of_ble_eq_true rfl) ?_
    refine ex_st 1 (pc' := 1) (ls' := [(0, xr 143), (1, xi n)]) (st' := [xi n]) rfl ?_
    by_cases h1 : (n : Int) = 0
    · refine ex_top h1 ?_
      refine ex_st 1 (pc' := 48) (ls' := [(0, xr 143), (1, xi n)]) (st' := []) rfl ?_
      refine ex_st 2 (pc' := 52) (ls' := [(0, xr 143), (1, xi n)]) (st' := [xi (I 143 0)]) rfl ?_
      refine ex_reti rfl rfl ?_
      exact ⟨x_req (by first | rfl | omega), _, _, rfl, hR⟩
    by_cases h2 : (n : Int) = 1
    · exfalso; omega
    by_cases h3 : (n : Int) = 2
    · exfalso; omega
    by_cases h4 : (n : Int) = 3
    · exfalso; omega
    by_cases h5 : (n : Int) = 4
    · exfalso; omega
    by_cases h6 : (n : Int) = 5
    · exfalso; omega
    by_cases h7 : (n : Int) = 6
    · exfalso; omega
    by_cases h8 : (n : Int) = 7
    · exfalso; omega
    exfalso; omega
  by_cases h9 : (n : Int) = 1
  · refine ex_top h9 ?_
    refine ex_st 1 (pc' := 56) (ls' := [(0, xr 0), (1, xi n)]) (st' := []) rfl ?_
    refine ex_st 2 (pc' := 60) (ls' := [(0, xr 0), (1, xi n)]) (st' := [xi (I 0 7)]) rfl ?_
    refine ex_reti rfl rfl ?_
    refine x_CQ.of (M := xM_m_count) rfl (Nat.le_of_ble_eq_true rfl) ?_
    refine ex_st 1 (pc' := 1) (ls' := [(0, xr 143), (1, xi n)]) (st' := [xi n]) rfl ?_
    by_cases h10 : (n : Int) = 0
    · exfalso; omega
    by_cases h11 : (n : Int) = 1
    · refine ex_top h11 ?_
      refine ex_st 1 (pc' := 53) (ls' := [(0, xr 143), (1, xi n)]) (st' := []) rfl ?_
      refine ex_st 2 (pc' := 57) (ls' := [(0, xr 143), (1, xi n)]) (st' := [xi (I 143 12)]) rfl ?_
      refine ex_reti rfl rfl ?_
      exact ⟨x_req (by first | rfl | omega), _, _, rfl, hR⟩
    by_cases h12 : (n : Int) = 2
    · exfalso; omega
    by_cases h13 : (n : Int) = 3
    · exfalso; omega
    by_cases h14 : (n : Int) = 4
    · exfalso; omega
    by_cases h15 : (n : Int) = 5
    · exfalso; omega
    by_cases h16 : (n : Int) = 6
    · exfalso; omega
    by_cases h17 : (n : Int) = 7
    · exfalso; omega
    exfalso; omega
  by_cases h18 : (n : Int) = 2
  · refine ex_top h18 ?_
    refine ex_st 1 (pc' := 61) (ls' := [(0, xr 0), (1, xi n)]) (st' := []) rfl ?_
    refine ex_st 3 (pc' := 68) (ls' := [(0, xr 0), (1, xi n)]) (st' := [xi (I 1 4)]) rfl ?_
    refine ex_reti rfl rfl ?_
    refine x_CQ.of (M := xM_m_count) rfl (Nat.le_of_ble_eq_true rfl) ?_
    refine ex_st 1 (pc' := 1) (ls' := [(0, xr 143), (1, xi n)]) (st' := [xi n]) rfl ?_
    by_cases h19 : (n : Int) = 0
    · exfalso; omega
    by_cases h20 : (n : Int) = 1
    · exfalso; omega
    by_cases h21 : (n : Int) = 2
    · refine ex_top h21 ?_
      refine ex_st 1 (pc' := 58) (ls' := [(0, xr 143), (1, xi n)]) (st' := []) rfl ?_
      refine ex_st 2 (pc' := 62) (ls' := [(0, xr 143), (1, xi n)]) (st' := [xi (I 143 2)]) rfl ?_
      refine ex_reti rfl rfl ?_
      exact ⟨x_req (by first | rfl | omega), _, _, rfl, hR⟩
    by_cases h22 : (n : Int) = 3
    · exfalso; omega
    by_cases h23 : (n : Int) = 4
    · exfalso; omega
    by_cases h24 : (n : Int) = 5
    · exfalso; omega
    by_cases h25 : (n : Int) = 6
    · exfalso; omega
    by_cases h26 : (n : Int) = 7
    · exfalso; omega
    exfalso; omega
  by_cases h27 : (n : Int) = 3
  · refine ex_top h27 ?_
    refine ex_st 1 (pc' := 69) (ls' := [(0, xr 0), (1, xi n)]) (st' := []) rfl ?_
    refine ex_st 4 (pc' := 79) (ls' := [(0, xr 0), (1, xi n)]) (st' := [xi (I 5 2)]) rfl ?_
    refine ex_reti rfl rfl ?_
    refine x_CQ.of (M := xM_m_count) rfl (Nat.le_of_ble_eq_true rfl) ?_
    refine ex_st 1 (pc' := 1) (ls' := [(0, xr 143), (1, xi n)]) (st' := [xi n]) rfl ?_
    by_cases h28 : (n : Int) = 0
    · exfalso; omega
    by_cases h29 : (n : Int) = 1
    · exfalso; omega
    by_cases h30 : (n : Int) = 2
    · exfalso; omega
    by_cases h31 : (n : Int) = 3
    · refine ex_top h31 ?_
      refine ex_st 1 (pc' := 63) (ls' := [(0, xr 143), (1, xi n)]) (st' := []) rfl ?_
      refine ex_st 2 (pc' := 67) (ls' := [(0, xr 143), (1, xi n)]) (st' := [xi (I 143 38)]) rfl ?_
      refine ex_reti rfl rfl ?_
      exact ⟨x_req (by first | rfl | omega), _, _, rfl, hR⟩
    by_cases h32 : (n : Int) = 4
    · exfalso; omega
    by_cases h33 : (n : Int) = 5
    · exfalso; omega
    by_cases h34 : (n : Int) = 6
    · exfalso; omega
    by_cases h35 : (n : Int) = 7
    · exfalso; omega
    exfalso; omega
  by_cases h36 : (n : Int) = 4
  · refine ex_top h36 ?_
    refine ex_st 1 (pc' := 80) (ls' := [(0, xr 0), (1, xi n)]) (st' := []) rfl ?_
    refine ex_st 4 (pc' := 90) (ls' := [(0, xr 0), (1, xi n)]) (st' := [xi (I 7 2)]) rfl ?_
    refine ex_reti rfl rfl ?_
    refine x_CQ.of (M := xM_m_count) rfl (Nat.le_of_ble_eq_true rfl) ?_
    refine ex_st 1 (pc' := 1) (ls' := [(0, xr 143), (1, xi n)]) (st' := [xi n]) rfl ?_
    by_cases h37 : (n : Int) = 0
    · exfalso; omega
    by_cases h38 : (n : Int) = 1
    · exfalso; omega
    by_cases h39 : (n : Int) = 2
    · exfalso; omega
    by_cases h40 : (n : Int) = 3
    · exfalso; omega
    by_cases h41 : (n : Int) = 4
    · refine ex_top h41 ?_
      refine ex_st 1 (pc' := 68) (ls' := [(0, xr 143), (1, xi n)]) (st' := []) rfl ?_
      refine ex_st 2 (pc' := 72) (ls' := [(0, xr 143), (1, xi n)]) (st' := [xi (I 143 43)]) rfl ?_
      refine ex_reti rfl rfl ?_
      exact ⟨x_req (by first | rfl | omega), _, _, rfl, hR⟩
    by_cases h42 : (n : Int) = 5
    · exfalso; omega
    by_cases h43 : (n : Int) = 6
    · exfalso; omega
    by_cases h44 : (n : Int) = 7
    · exfalso; omega
    exfalso; omega
  by_cases h45 : (n : Int) = 5
  · refine ex_top h45 ?_
    refine ex_st 1 (pc' := 91) (ls' := [(0, xr 0), (1, xi n)]) (st' := []) rfl ?_
    refine ex_st 4 (pc' := 101) (ls' := [(0, xr 0), (1, xi n)]) (st' := [xi (I 9 2)]) rfl ?_
    refine ex_reti rfl rfl ?_
    refine x_CQ.of (M := xM_m_count) rfl (Nat.le_of_ble_eq_true rfl) ?_
    refine ex_st 1 (pc' := 1) (ls' := [(0, xr 143), (1, xi n)]) (st' := [xi n]) rfl ?_
    by_cases h46 : (n : Int) = 0
    · exfalso; omega
    by_cases h47 : (n : Int) = 1
    · exfalso; omega
    by_cases h48 : (n : Int) = 2
    · exfalso; omega
    by_cases h49 : (n : Int) = 3
    · exfalso; omega
    by_cases h50 : (n : Int) = 4
    · exfalso; omega
    by_cases h51 : (n : Int) = 5
    · refine ex_top h51 ?_
      refine ex_st 1 (pc' := 73) (ls' := [(0, xr 143), (1, xi n)]) (st' := []) rfl ?_
      refine ex_st 2 (pc' := 77) (ls' := [(0, xr 143), (1, xi n)]) (st' := [xi (I 143 44)]) rfl ?_
      refine ex_reti rfl rfl ?_
      exact ⟨x_req (by first | rfl | omega), _, _, rfl, hR⟩
    by_cases h52 : (n : Int) = 6
    · exfalso; omega
    by_cases h53 : (n : Int) = 7
    · exfalso; omega
    exfalso; omega
  by_cases h54 : (n : Int) = 6
  · refine ex_top h54 ?_
    refine ex_st 1 (pc' := 102) (ls' := [(0, xr 0), (1, xi n)]) (st' := []) rfl ?_
    refine ex_st 3 (pc' := 109) (ls' := [(0, xr 0), (1, xi n)]) (st' := [xi (I 85 1)]) rfl ?_
    refine ex_reti rfl rfl ?_
    refine x_CQ.of (M := xM_m_count) rfl (Nat.le_of_ble_eq_true rfl) ?_
    refine ex_st 1 (pc' := 1) (ls' := [(0, xr 143), (1, xi n)]) (st' := [xi n]) rfl ?_
    by_cases h55 : (n : Int) = 0
    · exfalso; omega
    by_cases h56 : (n : Int) = 1
    · exfalso; omega
    by_cases h57 : (n : Int) = 2
    · exfalso; omega
    by_cases h58 : (n : Int) = 3
    · exfalso; omega
    by_cases h59 : (n : Int) = 4
    · exfalso; omega
    by_cases h60 : (n : Int) = 5
    · exfalso; omega
    by_cases h61 : (n : Int) = 6
    · refine ex_top h61 ?_
      refine ex_st 1 (pc' := 78) (ls' := [(0, xr 143), (1, xi n)]) (st' := []) rfl ?_
      refine ex_st 2 (pc' := 82) (ls' := [(0, xr 143), (1, xi n)]) (st' := [xi (I 143 14)]) rfl ?_
      refine ex_reti rfl rfl ?_
      exact ⟨x_req (by first | rfl | omega), _, _, rfl, hR⟩
    by_cases h62 : (n : Int) = 7
    · exfalso; omega
    exfalso; omega
  by_cases h63 : (n : Int) = 7
  · refine ex_top h63 ?_
    refine ex_st 1 (pc' := 110) (ls' := [(0, xr 0), (1, xi n)]) (st' := []) rfl ?_
    refine ex_st 3 (pc' := 117) (ls' := [(0, xr 0), (1, xi n)]) (st' := [xi (I 104 1)]) rfl ?_
    refine ex_reti rfl rfl ?_
    refine x_CQ.of (M := xM_m_count) rfl (Nat.le_of_ble_eq_true rfl) ?_
    refine ex_st 1 (pc' := 1) (ls' := [(0, xr 143), (1, xi n)]) (st' := [xi n]) rfl ?_
    by_cases h64 : (n : Int) = 0
    · exfalso; omega
    by_cases h65 : (n : Int) = 1
    · exfalso; omega
    by_cases h66 : (n : Int) = 2
    · exfalso; omega
    by_cases h67 : (n : Int) = 3
    · exfalso; omega
    by_cases h68 : (n : Int) = 4
    · exfalso; omega
    by_cases h69 : (n : Int) = 5
    · exfalso; omega
    by_cases h70 : (n : Int) = 6
    · exfalso; omega
    by_cases h71 : (n : Int) = 7
    · refine ex_top h71 ?_
      refine ex_st 1 (pc' := 83) (ls' := [(0, xr 143), (1, xi n)]) (st' := []) rfl ?_
      refine ex_st 2 (pc' := 87) (ls' := [(0, xr 143), (1, xi n)]) (st' := [xi (I 143 76)]) rfl ?_
      refine ex_reti rfl rfl ?_
      exact ⟨x_req (by first | rfl | omega), _, _, rfl, hR⟩
    exfalso; omega
  refine ex_tsd rfl (by first | omega | (constructor <;> omega) | assumption) (by omega) ?_
  refine ex_st 1 (pc' := 120) (ls' := [(0, xr 0), (1, xi n)]) (st' := [xi (-2)]) rfl ?_
  refine ex_reti rfl rfl ?_
  refine x_CQ.of (M := xM_m_count) rfl (Nat.le_of_ble_eq_true rfl) ?_
  refine ex_st 1 (pc' := 1) (ls' := [(0, xr 143), (1, xi n)]) (st' := [xi n]) rfl ?_
  by_cases h72 : (n : Int) = 0
  · exfalso; omega
  by_cases h73 : (n : Int) = 1
  · exfalso; omega
  by_cases h74 : (n : Int) = 2
  · exfalso; omega
  by_cases h75 : (n : Int) = 3
  · exfalso; omega
  by_cases h76 : (n : Int) = 4
  · exfalso; omega
  by_cases h77 : (n : Int) = 5
  · exfalso; omega
  by_cases h78 : (n : Int) = 6
  · exfalso; omega
  by_cases h79 : (n : Int) = 7
  · exfalso; omega
  refine ex_tsd rfl (by first | omega | (constructor <;> omega) | assumption) (by omega) ?_
  refine ex_st 1 (pc' := 90) (ls' := [(0, xr 143), (1, xi n)]) (st' := [xi (-2)]) rfl ?_
  refine ex_reti rfl rfl ?_
  exact ⟨x_req (by first | rfl | omega), _, _, rfl, hR⟩
theorem ex_min {sc : List Int} {D : Nat} {M : xMt} {pc : Nat} {ls : xLc} {r : List xPV} {m : xMem} {Q : Option xPV → xMem → Prop} {i len b : Nat} {z x y : Int} (he : x_lk M.2.2 pc = some (.invokestatic i, len, 903, b, z)) (hx : x_R x) (hy : x_R y) (hs : (r.map x_cat).sum ≤ 7) (kk : x_Ex sc D M (pc + len) ls (xi (if y < x then y else x) :: r) m Q) : x_Ex sc D M pc ls (xi y :: xi x :: r) m Q := by
  refine ex_sm he rfl ?_ kk
  have h1 : ((xi x :: r).map x_cat).sum = 1 + (r.map x_cat).sum := rfl
  simp only [x_sm, x_math, hx.wr, hy.wr]
  rw [if_pos (Or.inr (Or.inl trivial)), if_pos (by omega)]
  rfl
theorem op_trace {sc : List Int} {I : Nat → Nat → Int} {L : Nat → Nat → Int64} (hR : Rl I L) {t : Int} (ht : x_R t) : x_PQ sc xN_G_trace [xr 0, xi t] xN_m_trace [xr 143, xi t] (xSH, I, L) := by
  obtain ⟨⟨hNs, hNo, hNa, hNb, hNr, hNd, hNg, hNe, hNp, hNk⟩, hI, hT, hX, hC, hH, hQ⟩ := id hR
  have hs := hNs
  unfold RNs at hs
  by_cases hv : 0 ≤ t
  · obtain ⟨n, rfl⟩ := Int.eq_ofNat_of_zero_le hv
    have hs7 := hC
    unfold RC at hs7
    refine x_CQ.of (M := xM_G_trace) rfl (Nat.le_of_ble_eq_true rfl) ?_
    refine ex_st 1 (pc' := 1) (ls' := [(0, xr 0), (1, xi (↑n))]) (st' := [xi (↑n)]) rfl ?_
    refine ex_if rfl (by first | omega | (constructor <;> omega) | assumption) (fun (h0 : (↑n : Int) < 0) => ?_) (fun (h0 : ¬ (↑n : Int) < 0) => ?_)
    · exfalso; omega
    · refine ex_st 3 (pc' := 9) (ls' := [(0, xr 0), (1, xi (↑n))]) (st' := [xr 104, xi (↑n)]) rfl ?_
      refine ex_inl (M' := xM_A_kept) (as := [xr 104]) (rest := [xi (↑n)]) (D' := 28) rfl (Nat.le_of_ble_eq_true rfl) (by decide) rfl ⟨rfl, rfl, rfl⟩ ⟨Nat.le_of_ble_eq_true rfl, rfl, rfl⟩ (Nat.le_of_ble_eq_true rfl) rfl ?_
      refine ex_st 3 (pc' := 6) (ls' := [(0, xr 104)]) (st' := [xi 20, xi (I 104 1)]) rfl ?_
      refine ex_min rfl (by first | omega | (constructor <;> omega) | assumption) (by decide) (Nat.le_of_ble_eq_true rfl) ?_
      refine ex_top (if_neg (by omega)) ?_
      refine ex_reti rfl rfl ?_
      refine ex_ic rfl (by first | omega | (constructor <;> omega) | assumption) (by first | omega | (constructor <;> omega) | assumption) (fun (h2 : (I 104 1) ≤ (↑n : Int)) => ?_) (fun (h2 : ¬ (I 104 1) ≤ (↑n : Int)) => ?_)
      · refine ex_st 1 (pc' := 28) (ls' := [(0, xr 0), (1, xi (↑n))]) (st' := [xi (-1)]) rfl ?_
        refine ex_reti rfl rfl ?_
        refine x_CQ.of (M := xM_m_trace) rfl (Nat.le_of_ble_eq_true rfl) ?_
        refine ex_st 4 (pc' := 5) (ls' := [(0, xr 143), (1, xi (↑n))]) (st' := [xi 19, xi 0, xi (↑n), xr 143]) rfl ?_
        refine ex_call (ct_m_in (by first | omega | (constructor <;> omega) | assumption) (by first | omega | (constructor <;> omega) | assumption) (by first | omega | (constructor <;> omega) | assumption)) (by decide) rfl ⟨rfl, rfl, rfl⟩ ⟨Nat.le_of_ble_eq_true rfl, rfl, rfl⟩ (Nat.le_of_ble_eq_true rfl) rfl ?_
        refine ex_beq rfl (fun h3 => ?_) (fun h3 => ?_)
        · refine ex_st 1 (pc' := 29) (ls' := [(0, xr 143), (1, xi (↑n))]) (st' := [xi (-1)]) rfl ?_
          refine ex_reti rfl rfl ?_
          exact ⟨x_req (by first | rfl | omega), _, _, rfl, hR⟩
        · refine ex_st 3 (pc' := 16) (ls' := [(0, xr 143), (1, xi (↑n))]) (st' := [xi (I 143 76), xi (↑n)]) rfl ?_
          refine ex_ic rfl (by first | omega | (constructor <;> omega) | assumption) (by first | omega | (constructor <;> omega) | assumption) (fun (h4 : (I 143 76) ≤ (↑n : Int)) => ?_) (fun (h4 : ¬ (I 143 76) ≤ (↑n : Int)) => ?_)
          · refine ex_st 1 (pc' := 29) (ls' := [(0, xr 143), (1, xi (↑n))]) (st' := [xi (-1)]) rfl ?_
            refine ex_reti rfl rfl ?_
            exact ⟨x_req (by first | rfl | omega), _, _, rfl, hR⟩
          · exfalso; omega
      · refine ex_st 4 (pc' := 23) (ls' := [(0, xr 0), (1, xi (↑n))]) (st' := [xi (↑n), xr 105]) rfl ?_
        refine ex_iald (j := n) rfl (by decide) (rfl : xSH[105]? = some _) (by omega) (by omega) (by decide) ?_
        refine ex_st 1 (pc' := 28) (ls' := [(0, xr 0), (1, xi (↑n))]) (st' := [xi (I 105 n)]) rfl ?_
        refine ex_reti rfl rfl ?_
        refine x_CQ.of (M := xM_m_trace) rfl (Nat.le_of_ble_eq_true rfl) ?_
        refine ex_st 4 (pc' := 5) (ls' := [(0, xr 143), (1, xi (↑n))]) (st' := [xi 19, xi 0, xi (↑n), xr 143]) rfl ?_
        refine ex_call (ct_m_in (by first | omega | (constructor <;> omega) | assumption) (by first | omega | (constructor <;> omega) | assumption) (by first | omega | (constructor <;> omega) | assumption)) (by decide) rfl ⟨rfl, rfl, rfl⟩ ⟨Nat.le_of_ble_eq_true rfl, rfl, rfl⟩ (Nat.le_of_ble_eq_true rfl) rfl ?_
        refine ex_beq rfl (fun h5 => ?_) (fun h5 => ?_)
        · exfalso; omega
        · refine ex_st 3 (pc' := 16) (ls' := [(0, xr 143), (1, xi (↑n))]) (st' := [xi (I 143 76), xi (↑n)]) rfl ?_
          refine ex_ic rfl (by first | omega | (constructor <;> omega) | assumption) (by first | omega | (constructor <;> omega) | assumption) (fun (h6 : (I 143 76) ≤ (↑n : Int)) => ?_) (fun (h6 : ¬ (I 143 76) ≤ (↑n : Int)) => ?_)
          · exfalso; omega
          · refine ex_st 3 (pc' := 24) (ls' := [(0, xr 143), (1, xi (↑n))]) (st' := [xi (↑n), xr 190]) rfl ?_
            refine ex_iald (j := n) rfl (by decide) (rfl : xSH[190]? = some _) (by omega) (by omega) (by decide) ?_
            refine ex_st 1 (pc' := 29) (ls' := [(0, xr 143), (1, xi (↑n))]) (st' := [xi (I 190 n)]) rfl ?_
            refine ex_reti rfl rfl ?_
            exact ⟨x_req (by first | rfl | exact (hs7.2.2.2 n (by omega) (by omega)).symm), _, _, rfl, hR⟩
  have hs7 := hC
  unfold RC at hs7
  refine x_CQ.of (M := xM_G_trace) rfl (Nat.le_of_ble_eq_true rfl) ?_
  refine ex_st 1 (pc' := 1) (ls' := [(0, xr 0), (1, xi t)]) (st' := [xi t]) rfl ?_
  refine ex_if rfl (by first | omega | (constructor <;> omega) | assumption) (fun (h0 : t < 0) => ?_) (fun (h0 : ¬ t < 0) => ?_)
  · refine ex_st 1 (pc' := 28) (ls' := [(0, xr 0), (1, xi t)]) (st' := [xi (-1)]) rfl ?_
    refine ex_reti rfl rfl ?_
    refine x_CQ.of (M := xM_m_trace) rfl (Nat.le_of_ble_eq_true rfl) ?_
    refine ex_st 4 (pc' := 5) (ls' := [(0, xr 143), (1, xi t)]) (st' := [xi 19, xi 0, xi t, xr 143]) rfl ?_
    refine ex_call (ct_m_in (by first | omega | (constructor <;> omega) | assumption) (by first | omega | (constructor <;> omega) | assumption) (by first | omega | (constructor <;> omega) | assumption)) (by decide) rfl ⟨rfl, rfl, rfl⟩ ⟨Nat.le_of_ble_eq_true rfl, rfl, rfl⟩ (Nat.le_of_ble_eq_true rfl) rfl ?_
    refine ex_beq rfl (fun h1 => ?_) (fun h1 => ?_)
    · refine ex_st 1 (pc' := 29) (ls' := [(0, xr 143), (1, xi t)]) (st' := [xi (-1)]) rfl ?_
      refine ex_reti rfl rfl ?_
      exact ⟨x_req (by first | rfl | omega), _, _, rfl, hR⟩
    · exfalso; omega
  · exfalso; omega
