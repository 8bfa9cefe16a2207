/-! pairs of calls: the small ones -/
theorem op_egg {sc : List Int} {I : Nat → Nat → Int} {L : Nat → Nat → Int64} (hR : Rl I L) {n : Int} (hn : x_R n) : x_PQ sc xN_G_egg [xr 0, xi n] xN_m_egg [xr 143, xi n] (xSH, I, L) := by
  obtain ⟨⟨hNs, hNo, hNa, hNb, hNr, hNd, hNg, hNe, hNp, hNk⟩, hI, hT, hX, hC, hH, hQ⟩ := id hR
  have hs := hNs
  unfold RNs at hs
  refine x_CQ.of (M := xM_G_egg) rfl (Nat.le_of_ble_eq_true rfl) ?_
  refine ex_st 1 (pc' := 1) (ls' := [(0, xr 0), (1, xi n)]) (st' := [xi n]) rfl ?_
  refine ex_call (ct_G_isDigit (by first | omega | (constructor <;> omega) | assumption)) (by decide) rfl ⟨rfl, rfl, rfl⟩ ⟨Nat.le_of_ble_eq_true rfl, rfl, rfl⟩ (Nat.le_of_ble_eq_true rfl) rfl ?_
  refine ex_bne rfl (fun h0 => ?_) (fun h0 => ?_)
  · refine ex_st 7 (pc' := 23) (ls' := [(2, xi (I 1 5)), (0, xr 0), (1, xi n)]) (st' := [xi n, xr 1]) rfl ?_
    refine ex_pfi rfl (by decide) (rfl : xSH[1]? = some _) (by decide) rfl (by decide) (fun h => by cases h) ?_
    refine ex_st 1 (pc' := 27) (ls' := [(2, xi (I 1 5)), (0, xr 0), (1, xi n)]) (st' := [xi (I 1 5)]) rfl ?_
    refine ex_reti rfl rfl ?_
    refine x_CQ.of (M := xM_m_egg) rfl (Nat.le_of_ble_eq_true rfl) ?_
    refine ex_st 2 (pc' := 2) (ls' := [(0, xr 143), (1, xi n)]) (st' := [xi n, xr 143]) rfl ?_
    refine ex_call (ct_m_isDigitNumber (by first | omega | (constructor <;> omega) | assumption)) (by decide) rfl ⟨rfl, rfl, rfl⟩ ⟨Nat.le_of_ble_eq_true rfl, rfl, rfl⟩ (Nat.le_of_ble_eq_true rfl) rfl ?_
    refine ex_bne rfl (fun h1 => ?_) (fun h1 => ?_)
    · refine ex_st 2 (pc' := 15) (ls' := [(0, xr 143), (1, xi n)]) (st' := [xi ((x_up I 1 5 n) 143 3)]) rfl ?_
      rw [(x_up_far (by first | decide | omega) : (x_up I 1 5 n) 143 3 = I 143 3)]
      refine ex_st 3 (pc' := 18) (ls' := [(2, xi (I 143 3)), (0, xr 143), (1, xi n)]) (st' := [xi n, xr 143]) rfl ?_
      refine ex_pfi rfl (by decide) (rfl : xSH[143]? = some _) (by decide) rfl (by decide) (fun h => by cases h) ?_
      refine ex_st 1 (pc' := 22) (ls' := [(2, xi (I 143 3)), (0, xr 143), (1, xi n)]) (st' := [xi (I 143 3)]) rfl ?_
      refine ex_reti rfl rfl ?_
      refine ⟨x_req (by first | rfl | omega), ?_⟩
      refine ⟨_, _, rfl, ?_⟩
      have hI2 : RIw (x_up (x_up I 1 5 n) 143 3 n) := by
        obtain ⟨gs, go, ga, gb, gr, gd, gg, ge, gp, gk⟩ := id hI
        exact ⟨gs.fr ⟨by (repeat rw [x_up_far (by omega)]); try rfl, by (repeat rw [x_up_far (by omega)]); try rfl, by (repeat rw [x_up_far (by omega)]); try rfl, by (repeat rw [x_up_far (by omega)]); try rfl, by (repeat rw [x_up_far (by omega)]); try rfl, by (repeat rw [x_up_far (by omega)]); try rfl, by (repeat rw [x_up_far (by omega)]); try rfl, by (repeat rw [x_up_far (by omega)]); try rfl, by (repeat rw [x_up_far (by omega)]); try rfl⟩, go.fr (by intros; (repeat rw [x_up_far (by omega)]); try rfl) (by intros; (repeat rw [x_up_far (by omega)]); try rfl), ga.fr (by intros; (repeat rw [x_up_far (by omega)]); try rfl) (by (repeat rw [x_up_far (by omega)]); try rfl), gb.fr (by intros; (repeat rw [x_up_far (by omega)]); try rfl) (by intros; (repeat rw [x_up_far (by omega)]); try rfl), gr.fr (by intros; (repeat rw [x_up_far (by omega)]); try rfl) (by intros; (repeat rw [x_up_far (by omega)]); try rfl), gd.fr (by intros; (repeat rw [x_up_far (by omega)]); try rfl) (by intros; (repeat rw [x_up_far (by omega)]); try rfl) (by (repeat rw [x_up_far (by omega)]); try rfl), gg.fr ⟨by (repeat rw [x_up_far (by omega)]); try rfl, by (repeat rw [x_up_far (by omega)]); try rfl⟩ (by intros; (repeat rw [x_up_far (by omega)]); try rfl) (by intros; (repeat rw [x_up_far (by omega)]); try rfl), ge.fr ⟨by (repeat rw [x_up_far (by omega)]); try rfl, by (repeat rw [x_up_far (by omega)]); try rfl, by (repeat rw [x_up_far (by omega)]); try rfl⟩ (by intros; (repeat rw [x_up_far (by omega)]); try rfl) (by intros; (repeat rw [x_up_far (by omega)]); try rfl), gp.fr ⟨by (repeat rw [x_up_far (by omega)]); try rfl, by (repeat rw [x_up_far (by omega)]); try rfl, by (repeat rw [x_up_far (by omega)]); try rfl⟩ (by intros; (repeat rw [x_up_far (by omega)]); try rfl) (by intros; (repeat rw [x_up_far (by omega)]); try rfl), gk.fr ⟨by (repeat rw [x_up_far (by omega)]); try rfl, by (repeat rw [x_up_far (by omega)]); try rfl, by (repeat rw [x_up_far (by omega)]); try rfl⟩ (by intros; (repeat rw [x_up_far (by omega)]); try rfl) (by intros; (repeat rw [x_up_far (by omega)]); try rfl)⟩
      refine ⟨⟨?_, hNo.fr (by intros; (repeat rw [x_up_far (by omega)]); try rfl) (by intros; (repeat rw [x_up_far (by omega)]); try rfl), hNa.fr (by intros; (repeat rw [x_up_far (by omega)]); try rfl) (by (repeat rw [x_up_far (by omega)]); try rfl), hNb.fr (by intros; (repeat rw [x_up_far (by omega)]); try rfl) (by intros; (repeat rw [x_up_far (by omega)]); try rfl), hNr.fr (by intros; (repeat rw [x_up_far (by omega)]); try rfl) (by intros; (repeat rw [x_up_far (by omega)]); try rfl), hNd.fr (by intros; (repeat rw [x_up_far (by omega)]); try rfl) (by intros; (repeat rw [x_up_far (by omega)]); try rfl) (by (repeat rw [x_up_far (by omega)]); try rfl), hNg.fr ⟨by (repeat rw [x_up_far (by omega)]); try rfl, by (repeat rw [x_up_far (by omega)]); try rfl⟩ (by intros; (repeat rw [x_up_far (by omega)]); try rfl) (by intros; (repeat rw [x_up_far (by omega)]); try rfl), hNe.fr ⟨by (repeat rw [x_up_far (by omega)]); try rfl, by (repeat rw [x_up_far (by omega)]); try rfl, by (repeat rw [x_up_far (by omega)]); try rfl⟩ (by intros; (repeat rw [x_up_far (by omega)]); try rfl) (by intros; (repeat rw [x_up_far (by omega)]); try rfl), hNp.fr ⟨by (repeat rw [x_up_far (by omega)]); try rfl, by (repeat rw [x_up_far (by omega)]); try rfl, by (repeat rw [x_up_far (by omega)]); try rfl⟩ (by intros; (repeat rw [x_up_far (by omega)]); try rfl) (by intros; (repeat rw [x_up_far (by omega)]); try rfl), hNk.fr ⟨by (repeat rw [x_up_far (by omega)]); try rfl, by (repeat rw [x_up_far (by omega)]); try rfl, by (repeat rw [x_up_far (by omega)]); try rfl⟩ (by intros; (repeat rw [x_up_far (by omega)]); try rfl) (by intros; (repeat rw [x_up_far (by omega)]); try rfl)⟩, hI2, hT.fr ⟨by (repeat rw [x_up_far (by omega)]); try rfl, by (repeat rw [x_up_far (by omega)]); try rfl⟩ (by intros; (repeat rw [x_up_far (by omega)]); try rfl) (by intros; (repeat rw [x_up_far (by omega)]); try rfl) (by intros; (repeat rw [x_up_far (by omega)]); try rfl), hX.fr ⟨by (repeat rw [x_up_far (by omega)]); try rfl, by (repeat rw [x_up_far (by omega)]); try rfl⟩ (by intros; (repeat rw [x_up_far (by omega)]); try rfl), hC.fr ⟨by (repeat rw [x_up_far (by omega)]); try rfl, by (repeat rw [x_up_far (by omega)]); try rfl⟩ (by intros; (repeat rw [x_up_far (by omega)]); try rfl), hH.fr ⟨by (repeat rw [x_up_far (by omega)]); try rfl, by (repeat rw [x_up_far (by omega)]); try rfl, by (repeat rw [x_up_far (by omega)]); try rfl⟩ (by intros; (repeat rw [x_up_far (by omega)]); try rfl) (by intros; (repeat rw [x_up_far (by omega)]); try rfl), hQ.fr (by intros; (repeat rw [x_up_far (by omega)]); try rfl) (by intros; (repeat rw [x_up_far (by omega)]); try rfl) (by intros; (repeat rw [x_up_far (by omega)]); try rfl) (by intros; (repeat rw [x_up_far (by omega)]); try rfl)⟩
      · unfold RNs at *; simp [x_up]; omega
    · exfalso; omega
  · refine ex_st 1 (pc' := 9) (ls' := [(0, xr 0), (1, xi n)]) (st' := [xi (-2)]) rfl ?_
    refine ex_reti rfl rfl ?_
    refine x_CQ.of (M := xM_m_egg) rfl (Nat.le_of_ble_eq_true rfl) ?_
    refine ex_st 2 (pc' := 2) (ls' := [(0, xr 143), (1, xi n)]) (st' := [xi n, xr 143]) rfl ?_
    refine ex_call (ct_m_isDigitNumber (by first | omega | (constructor <;> omega) | assumption)) (by decide) rfl ⟨rfl, rfl, rfl⟩ ⟨Nat.le_of_ble_eq_true rfl, rfl, rfl⟩ (Nat.le_of_ble_eq_true rfl) rfl ?_
    refine ex_bne rfl (fun h2 => ?_) (fun h2 => ?_)
    · exfalso; omega
    · refine ex_st 1 (pc' := 10) (ls' := [(0, xr 143), (1, xi n)]) (st' := [xi (-2)]) rfl ?_
      refine ex_reti rfl rfl ?_
      exact ⟨x_req (by first | rfl | omega), _, _, rfl, hR⟩
theorem op_votes {sc : List Int} {I : Nat → Nat → Int} {L : Nat → Nat → Int64} (hR : Rl I L) {t w : Int} (ht : x_R t) (hw : x_R w) : x_PQ sc xN_G_votes [xr 0, xi t, xi w] xN_m_votes [xr 143, xi t, xi w] (xSH, I, L) := by
  obtain ⟨⟨hNs, hNo, hNa, hNb, hNr, hNd, hNg, hNe, hNp, hNk⟩, hI, hT, hX, hC, hH, hQ⟩ := id hR
  have hs := hNs
  unfold RNs at hs
  by_cases hv : 0 ≤ t ∧ t < I 1 1
  · obtain ⟨n, rfl⟩ := Int.eq_ofNat_of_zero_le hv.1
    have ho := hNo n (by omega)
    refine x_CQ.of (M := xM_G_votes) rfl (Nat.le_of_ble_eq_true rfl) ?_
    refine ex_st 2 (pc' := 2) (ls' := [(0, xr 0), (1, xi (↑n)), (2, xi w)]) (st' := [xi (↑n), xr 0]) rfl ?_
    refine ex_call (ct_G_isOfficial2 (c := I 1 1) (by first | omega | (constructor <;> omega) | assumption | ((repeat rw [x_up_far (by omega)]); first | rfl | omega | (constructor <;> omega))) (by (repeat rw [x_up_far (by omega)]); try rfl) (by first | omega | (constructor <;> omega) | assumption | ((repeat rw [x_up_far (by omega)]); first | rfl | omega | (constructor <;> omega)))) (by decide) rfl ⟨rfl, rfl, rfl⟩ ⟨Nat.le_of_ble_eq_true rfl, rfl, rfl⟩ (Nat.le_of_ble_eq_true rfl) rfl ?_
    refine ex_bne rfl (fun h0 => ?_) (fun h0 => ?_)
    · refine ex_st 1 (pc' := 11) (ls' := [(0, xr 0), (1, xi (↑n)), (2, xi w)]) (st' := [xi w]) rfl ?_
      refine ex_call (ct_G_isDigit (by first | omega | (constructor <;> omega) | assumption)) (by decide) rfl ⟨rfl, rfl, rfl⟩ ⟨Nat.le_of_ble_eq_true rfl, rfl, rfl⟩ (Nat.le_of_ble_eq_true rfl) rfl ?_
      refine ex_bne rfl (fun h1 => ?_) (fun h1 => ?_)
      · refine ex_st 4 (pc' := 28) (ls' := [(0, xr 0), (1, xi (↑n)), (2, xi w)]) (st' := [xi (↑n), xr 2]) rfl ?_
        refine ex_aald (q := 11 + 3 * n) (j := n) rfl (by decide) (rfl : xSH[2]? = some _) (by decide) (by omega) (by omega) (by decide) (x_aa2 n (by omega)) (by omega) ?_
        refine ex_st 2 (pc' := 31) (ls' := [(3, xr (11 + 3 * n)), (0, xr 0), (1, xi (↑n)), (2, xi w)]) (st' := [xr (11 + 3 * n)]) rfl ?_
        refine ex_gfi rfl (by omega) (x_so1 n (by omega)).1 (by decide) (by decide) rfl ?_
        refine ex_st 3 (pc' := 38) (ls' := [(4, xi (I (11 + 3 * n) 2)), (3, xr (11 + 3 * n)), (0, xr 0), (1, xi (↑n)), (2, xi w)]) (st' := [xi w, xr (11 + 3 * n)]) rfl ?_
        refine ex_pfi rfl (by omega) (x_so1 n (by omega)).1 (by decide) rfl (by decide) (fun h => by cases h) ?_
        refine ex_st 1 (pc' := 43) (ls' := [(4, xi (I (11 + 3 * n) 2)), (3, xr (11 + 3 * n)), (0, xr 0), (1, xi (↑n)), (2, xi w)]) (st' := [xi (I (11 + 3 * n) 2)]) rfl ?_
        refine ex_reti rfl rfl ?_
        refine x_CQ.of (M := xM_m_votes) rfl (Nat.le_of_ble_eq_true rfl) ?_
        refine ex_st 2 (pc' := 2) (ls' := [(0, xr 143), (1, xi (↑n)), (2, xi w)]) (st' := [xi (↑n), xr 143]) rfl ?_
        refine ex_call (ct_m_isOfficial2 (c := I 143 0) (by first | omega | (constructor <;> omega) | assumption | ((repeat rw [x_up_far (by omega)]); first | rfl | omega | (constructor <;> omega))) (by (repeat rw [x_up_far (by omega)]); try rfl) (by first | omega | (constructor <;> omega) | assumption | ((repeat rw [x_up_far (by omega)]); first | rfl | omega | (constructor <;> omega)))) (by decide) rfl ⟨rfl, rfl, rfl⟩ ⟨Nat.le_of_ble_eq_true rfl, rfl, rfl⟩ (Nat.le_of_ble_eq_true rfl) rfl ?_
        refine ex_bne rfl (fun h2 => ?_) (fun h2 => ?_)
        · refine ex_st 2 (pc' := 12) (ls' := [(0, xr 143), (1, xi (↑n)), (2, xi w)]) (st' := [xi w, xr 143]) rfl ?_
          refine ex_call (ct_m_isDigitNumber (by first | omega | (constructor <;> omega) | assumption)) (by decide) rfl ⟨rfl, rfl, rfl⟩ ⟨Nat.le_of_ble_eq_true rfl, rfl, rfl⟩ (Nat.le_of_ble_eq_true rfl) rfl ?_
          refine ex_bne rfl (fun h3 => ?_) (fun h3 => ?_)
          · refine ex_st 3 (pc' := 26) (ls' := [(0, xr 143), (1, xi (↑n)), (2, xi w)]) (st' := [xi (↑n), xr 146]) rfl ?_
            refine ex_iald (j := n) rfl (by decide) (rfl : xSH[146]? = some _) (by omega) (by omega) (by decide) ?_
            rw [(x_up_far (by first | decide | omega) : (x_up I (11 + 3 * n) 2 w) 146 n = I 146 n)]
            refine ex_st 5 (pc' := 34) (ls' := [(3, xi (I 146 n)), (0, xr 143), (1, xi (↑n)), (2, xi w)]) (st' := [xi w, xi (↑n), xr 146]) rfl ?_
            refine ex_iast (j := n) rfl (by decide) (rfl : xSH[146]? = some _) (by omega) (by omega) (by decide) ?_
            refine ex_st 1 (pc' := 36) (ls' := [(3, xi (I 146 n)), (0, xr 143), (1, xi (↑n)), (2, xi w)]) (st' := [xi (I 146 n)]) rfl ?_
            refine ex_reti rfl rfl ?_
            refine ⟨x_req (by first | rfl | omega), ?_⟩
            refine ⟨_, _, rfl, ?_⟩
            have hI2 : RIw (x_up (x_up I (11 + 3 * n) 2 w) 146 n w) := by
              obtain ⟨gs, go, ga, gb, gr, gd, gg, ge, gp, gk⟩ := id hI
              exact ⟨gs.fr ⟨by (repeat rw [x_up_far (by omega)]); try rfl, by (repeat rw [x_up_far (by omega)]); try rfl, by (repeat rw [x_up_far (by omega)]); try rfl, by (repeat rw [x_up_far (by omega)]); try rfl, by (repeat rw [x_up_far (by omega)]); try rfl, by (repeat rw [x_up_far (by omega)]); try rfl, by (repeat rw [x_up_far (by omega)]); try rfl, by (repeat rw [x_up_far (by omega)]); try rfl, by (repeat rw [x_up_far (by omega)]); try rfl⟩, go.fr (by intros; (repeat rw [x_up_far (by omega)]); try rfl) (by intros; (repeat rw [x_up_far (by omega)]); try rfl), ga.fr (by intros; (repeat rw [x_up_far (by omega)]); try rfl) (by (repeat rw [x_up_far (by omega)]); try rfl), gb.fr (by intros; (repeat rw [x_up_far (by omega)]); try rfl) (by intros; (repeat rw [x_up_far (by omega)]); try rfl), gr.fr (by intros; (repeat rw [x_up_far (by omega)]); try rfl) (by intros; (repeat rw [x_up_far (by omega)]); try rfl), gd.fr (by intros; (repeat rw [x_up_far (by omega)]); try rfl) (by intros; (repeat rw [x_up_far (by omega)]); try rfl) (by (repeat rw [x_up_far (by omega)]); try rfl), gg.fr ⟨by (repeat rw [x_up_far (by omega)]); try rfl, by (repeat rw [x_up_far (by omega)]); try rfl⟩ (by intros; (repeat rw [x_up_far (by omega)]); try rfl) (by intros; (repeat rw [x_up_far (by omega)]); try rfl), ge.fr ⟨by (repeat rw [x_up_far (by omega)]); try rfl, by (repeat rw [x_up_far (by omega)]); try rfl, by (repeat rw [x_up_far (by omega)]); try rfl⟩ (by intros; (repeat rw [x_up_far (by omega)]); try rfl) (by intros; (repeat rw [x_up_far (by omega)]); try rfl), gp.fr ⟨by (repeat rw [x_up_far (by omega)]); try rfl, by (repeat rw [x_up_far (by omega)]); try rfl, by (repeat rw [x_up_far (by omega)]); try rfl⟩ (by intros; (repeat rw [x_up_far (by omega)]); try rfl) (by intros; (repeat rw [x_up_far (by omega)]); try rfl), gk.fr ⟨by (repeat rw [x_up_far (by omega)]); try rfl, by (repeat rw [x_up_far (by omega)]); try rfl, by (repeat rw [x_up_far (by omega)]); try rfl⟩ (by intros; (repeat rw [x_up_far (by omega)]); try rfl) (by intros; (repeat rw [x_up_far (by omega)]); try rfl)⟩
            refine ⟨⟨hNs.fr ⟨by (repeat rw [x_up_far (by omega)]); try rfl, by (repeat rw [x_up_far (by omega)]); try rfl, by (repeat rw [x_up_far (by omega)]); try rfl, by (repeat rw [x_up_far (by omega)]); try rfl, by (repeat rw [x_up_far (by omega)]); try rfl, by (repeat rw [x_up_far (by omega)]); try rfl, by (repeat rw [x_up_far (by omega)]); try rfl, by (repeat rw [x_up_far (by omega)]); try rfl, by (repeat rw [x_up_far (by omega)]); try rfl⟩, ?_, hNa.fr (by intros; (repeat rw [x_up_far (by omega)]); try rfl) (by (repeat rw [x_up_far (by omega)]); try rfl), hNb.fr (by intros; (repeat rw [x_up_far (by omega)]); try rfl) (by intros; (repeat rw [x_up_far (by omega)]); try rfl), hNr.fr (by intros; (repeat rw [x_up_far (by omega)]); try rfl) (by intros; (repeat rw [x_up_far (by omega)]); try rfl), hNd.fr (by intros; (repeat rw [x_up_far (by omega)]); try rfl) (by intros; (repeat rw [x_up_far (by omega)]); try rfl) (by (repeat rw [x_up_far (by omega)]); try rfl), hNg.fr ⟨by (repeat rw [x_up_far (by omega)]); try rfl, by (repeat rw [x_up_far (by omega)]); try rfl⟩ (by intros; (repeat rw [x_up_far (by omega)]); try rfl) (by intros; (repeat rw [x_up_far (by omega)]); try rfl), hNe.fr ⟨by (repeat rw [x_up_far (by omega)]); try rfl, by (repeat rw [x_up_far (by omega)]); try rfl, by (repeat rw [x_up_far (by omega)]); try rfl⟩ (by intros; (repeat rw [x_up_far (by omega)]); try rfl) (by intros; (repeat rw [x_up_far (by omega)]); try rfl), hNp.fr ⟨by (repeat rw [x_up_far (by omega)]); try rfl, by (repeat rw [x_up_far (by omega)]); try rfl, by (repeat rw [x_up_far (by omega)]); try rfl⟩ (by intros; (repeat rw [x_up_far (by omega)]); try rfl) (by intros; (repeat rw [x_up_far (by omega)]); try rfl), hNk.fr ⟨by (repeat rw [x_up_far (by omega)]); try rfl, by (repeat rw [x_up_far (by omega)]); try rfl, by (repeat rw [x_up_far (by omega)]); try rfl⟩ (by intros; (repeat rw [x_up_far (by omega)]); try rfl) (by intros; (repeat rw [x_up_far (by omega)]); try rfl)⟩, hI2, hT.fr ⟨by (repeat rw [x_up_far (by omega)]); try rfl, by (repeat rw [x_up_far (by omega)]); try rfl⟩ (by intros; (repeat rw [x_up_far (by omega)]); try rfl) (by intros; (repeat rw [x_up_far (by omega)]); try rfl) (by intros; (repeat rw [x_up_far (by omega)]); try rfl), hX.fr ⟨by (repeat rw [x_up_far (by omega)]); try rfl, by (repeat rw [x_up_far (by omega)]); try rfl⟩ (by intros; (repeat rw [x_up_far (by omega)]); try rfl), hC.fr ⟨by (repeat rw [x_up_far (by omega)]); try rfl, by (repeat rw [x_up_far (by omega)]); try rfl⟩ (by intros; (repeat rw [x_up_far (by omega)]); try rfl), hH.fr ⟨by (repeat rw [x_up_far (by omega)]); try rfl, by (repeat rw [x_up_far (by omega)]); try rfl, by (repeat rw [x_up_far (by omega)]); try rfl⟩ (by intros; (repeat rw [x_up_far (by omega)]); try rfl) (by intros; (repeat rw [x_up_far (by omega)]); try rfl), hQ.fr (by intros; (repeat rw [x_up_far (by omega)]); try rfl) (by intros; (repeat rw [x_up_far (by omega)]); try rfl) (by intros; (repeat rw [x_up_far (by omega)]); try rfl) (by intros; (repeat rw [x_up_far (by omega)]); try rfl)⟩
            · intro p hp
              have h := hNo p hp
              by_cases hpn : p = n
              · subst hpn; simp [x_up] at *; omega
              · repeat rw [x_up_far (by omega)]
                exact h
          · exfalso; omega
        · exfalso; omega
      · refine ex_st 1 (pc' := 19) (ls' := [(0, xr 0), (1, xi (↑n)), (2, xi w)]) (st' := [xi (-2)]) rfl ?_
        refine ex_reti rfl rfl ?_
        refine x_CQ.of (M := xM_m_votes) rfl (Nat.le_of_ble_eq_true rfl) ?_
        refine ex_st 2 (pc' := 2) (ls' := [(0, xr 143), (1, xi (↑n)), (2, xi w)]) (st' := [xi (↑n), xr 143]) rfl ?_
        refine ex_call (ct_m_isOfficial2 (c := I 143 0) (by first | omega | (constructor <;> omega) | assumption | ((repeat rw [x_up_far (by omega)]); first | rfl | omega | (constructor <;> omega))) (by (repeat rw [x_up_far (by omega)]); try rfl) (by first | omega | (constructor <;> omega) | assumption | ((repeat rw [x_up_far (by omega)]); first | rfl | omega | (constructor <;> omega)))) (by decide) rfl ⟨rfl, rfl, rfl⟩ ⟨Nat.le_of_ble_eq_true rfl, rfl, rfl⟩ (Nat.le_of_ble_eq_true rfl) rfl ?_
        refine ex_bne rfl (fun h4 => ?_) (fun h4 => ?_)
        · refine ex_st 2 (pc' := 12) (ls' := [(0, xr 143), (1, xi (↑n)), (2, xi w)]) (st' := [xi w, xr 143]) rfl ?_
          refine ex_call (ct_m_isDigitNumber (by first | omega | (constructor <;> omega) | assumption)) (by decide) rfl ⟨rfl, rfl, rfl⟩ ⟨Nat.le_of_ble_eq_true rfl, rfl, rfl⟩ (Nat.le_of_ble_eq_true rfl) rfl ?_
          refine ex_bne rfl (fun h5 => ?_) (fun h5 => ?_)
          · exfalso; omega
          · refine ex_st 1 (pc' := 20) (ls' := [(0, xr 143), (1, xi (↑n)), (2, xi w)]) (st' := [xi (-2)]) rfl ?_
            refine ex_reti rfl rfl ?_
            exact ⟨x_req (by first | rfl | omega), _, _, rfl, hR⟩
        · exfalso; omega
    · exfalso; omega
  refine x_CQ.of (M := xM_G_votes) rfl (Nat.le_of_ble_eq_true rfl) ?_
  refine ex_st 2 (pc' := 2) (ls' := [(0, xr 0), (1, xi t), (2, xi w)]) (st' := [xi t, xr 0]) rfl ?_
  refine ex_call (ct_G_isOfficial2 (c := I 1 1) (by first | omega | (constructor <;> omega) | assumption | ((repeat rw [x_up_far (by omega)]); first | rfl | omega | (constructor <;> omega))) (by (repeat rw [x_up_far (by omega)]); try rfl) (by first | omega | (constructor <;> omega) | assumption | ((repeat rw [x_up_far (by omega)]); first | rfl | omega | (constructor <;> omega)))) (by decide) rfl ⟨rfl, rfl, rfl⟩ ⟨Nat.le_of_ble_eq_true rfl, rfl, rfl⟩ (Nat.le_of_ble_eq_true rfl) rfl ?_
  refine ex_bne rfl (fun h0 => ?_) (fun h0 => ?_)
  · exfalso; omega
  · refine ex_st 1 (pc' := 9) (ls' := [(0, xr 0), (1, xi t), (2, xi w)]) (st' := [xi (-1)]) rfl ?_
    refine ex_reti rfl rfl ?_
    refine x_CQ.of (M := xM_m_votes) rfl (Nat.le_of_ble_eq_true rfl) ?_
    refine ex_st 2 (pc' := 2) (ls' := [(0, xr 143), (1, xi t), (2, xi w)]) (st' := [xi t, xr 143]) rfl ?_
    refine ex_call (ct_m_isOfficial2 (c := I 143 0) (by first | omega | (constructor <;> omega) | assumption | ((repeat rw [x_up_far (by omega)]); first | rfl | omega | (constructor <;> omega))) (by (repeat rw [x_up_far (by omega)]); try rfl) (by first | omega | (constructor <;> omega) | assumption | ((repeat rw [x_up_far (by omega)]); first | rfl | omega | (constructor <;> omega)))) (by decide) rfl ⟨rfl, rfl, rfl⟩ ⟨Nat.le_of_ble_eq_true rfl, rfl, rfl⟩ (Nat.le_of_ble_eq_true rfl) rfl ?_
    refine ex_bne rfl (fun h1 => ?_) (fun h1 => ?_)
    · exfalso; omega
    · refine ex_st 1 (pc' := 9) (ls' := [(0, xr 143), (1, xi t), (2, xi w)]) (st' := [xi (-1)]) rfl ?_
      refine ex_reti rfl rfl ?_
      exact ⟨x_req (by first | rfl | omega), _, _, rfl, hR⟩
