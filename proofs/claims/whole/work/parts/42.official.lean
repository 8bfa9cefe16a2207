/-! pair of calls: official -/
set_option maxRecDepth 8000 in
set_option maxHeartbeats 4000000 in
theorem op_official {sc : List Int} {I : Nat → Nat → Int} {L : Nat → Nat → Int64} (hR : Rl I L) {k v w : Int} (hk : x_R k) (hv : x_R v) (hw : x_R w) : x_PQ sc xN_G_official [xr 0, xi k, xi v, xi w] xN_m_official [xr 143, xi k, xi v, xi w] (xSH, I, L) := by
  obtain ⟨⟨hNs, hNo, hNa, hNb, hNr, hNd, hNg, hNe, hNp, hNk⟩, hI, hT, hX, hC, hH, hQ⟩ := id hR
  have hs := hNs
  unfold RNs at hs
  obtain ⟨hna, hnb, hnc⟩ := id hNa
  obtain ⟨sa, hsa⟩ := Int.eq_ofNat_of_zero_le hnb
  rw [hsa] at hna hnc
  simp only [Int.toNat_natCast] at hna
  obtain ⟨c, hc0⟩ := Int.eq_ofNat_of_zero_le hs.2.1
  have hc1 : I 1 1 = (c : Int) := by omega
  refine x_CQ.of (M := xM_G_official) rfl (Nat.le_of_ble_eq_true rfl) ?_
  refine ex_st 1 (pc' := 1) (ls' := [(0, xr 0), (1, xi k), (2, xi v), (3, xi w)]) (st' := [xi k]) rfl ?_
  refine ex_call (ct_G_isKind (by first | omega | (constructor <;> omega) | assumption)) (by decide) rfl ⟨rfl, rfl, rfl⟩ ⟨Nat.le_of_ble_eq_true rfl, rfl, rfl⟩ (Nat.le_of_ble_eq_true rfl) rfl ?_
  refine ex_bne rfl (fun h0 => ?_) (fun h0 => ?_)
  · refine ex_st 1 (pc' := 10) (ls' := [(0, xr 0), (1, xi k), (2, xi v), (3, xi w)]) (st' := [xi v]) rfl ?_
    refine ex_call (ct_G_isDigit (by first | omega | (constructor <;> omega) | assumption)) (by decide) rfl ⟨rfl, rfl, rfl⟩ ⟨Nat.le_of_ble_eq_true rfl, rfl, rfl⟩ (Nat.le_of_ble_eq_true rfl) rfl ?_
    refine ex_beq rfl (fun h1 => ?_) (fun h1 => ?_)
    · refine ex_st 1 (pc' := 25) (ls' := [(0, xr 0), (1, xi k), (2, xi v), (3, xi w)]) (st' := [xi (-2)]) rfl ?_
      refine ex_reti rfl rfl ?_
      refine x_CQ.of (M := xM_m_official) rfl (Nat.le_of_ble_eq_true rfl) ?_
      refine ex_st 4 (pc' := 5) (ls' := [(0, xr 143), (1, xi k), (2, xi v), (3, xi w)]) (st' := [xi 6, xi 0, xi k, xr 143]) rfl ?_
      refine ex_call (ct_m_in (by first | omega | (constructor <;> omega) | assumption) (by first | omega | (constructor <;> omega) | assumption) (by first | omega | (constructor <;> omega) | assumption)) (by decide) rfl ⟨rfl, rfl, rfl⟩ ⟨Nat.le_of_ble_eq_true rfl, rfl, rfl⟩ (Nat.le_of_ble_eq_true rfl) rfl ?_
      refine ex_bne rfl (fun h2 => ?_) (fun h2 => ?_)
      · refine ex_st 2 (pc' := 15) (ls' := [(0, xr 143), (1, xi k), (2, xi v), (3, xi w)]) (st' := [xi v, xr 143]) rfl ?_
        refine ex_call (ct_m_isDigitNumber (by first | omega | (constructor <;> omega) | assumption)) (by decide) rfl ⟨rfl, rfl, rfl⟩ ⟨Nat.le_of_ble_eq_true rfl, rfl, rfl⟩ (Nat.le_of_ble_eq_true rfl) rfl ?_
        refine ex_beq rfl (fun h3 => ?_) (fun h3 => ?_)
        · refine ex_st 1 (pc' := 31) (ls' := [(0, xr 143), (1, xi k), (2, xi v), (3, xi w)]) (st' := [xi (-2)]) rfl ?_
          refine ex_reti rfl rfl ?_
          exact ⟨x_req (by first | rfl | omega), _, _, rfl, hR⟩
        · exfalso; omega
      · exfalso; omega
    · refine ex_st 1 (pc' := 17) (ls' := [(0, xr 0), (1, xi k), (2, xi v), (3, xi w)]) (st' := [xi w]) rfl ?_
      refine ex_call (ct_G_isDigit (by first | omega | (constructor <;> omega) | assumption)) (by decide) rfl ⟨rfl, rfl, rfl⟩ ⟨Nat.le_of_ble_eq_true rfl, rfl, rfl⟩ (Nat.le_of_ble_eq_true rfl) rfl ?_
      refine ex_bne rfl (fun h4 => ?_) (fun h4 => ?_)
      · refine ex_st 3 (pc' := 33) (ls' := [(0, xr 0), (1, xi k), (2, xi v), (3, xi w)]) (st' := [xi (I 1 1)]) rfl ?_
        rw [hc1]
        refine ex_st 1 (pc' := 35) (ls' := [(0, xr 0), (1, xi k), (2, xi v), (3, xi w)]) (st' := [xi 6, xi (↑c)]) rfl ?_
        refine ex_ic rfl (by first | omega | (constructor <;> omega) | assumption) (by decide) (fun (h5 : (↑c : Int) < 6) => ?_) (fun (h5 : ¬ (↑c : Int) < 6) => ?_)
        · refine ex_st 6 (pc' := 55) (ls' := [(0, xr 0), (1, xi k), (2, xi v), (3, xi w)]) (st' := [xi (I 1 1), xr 2]) rfl ?_
          rw [hc1]
          refine ex_aald (q := 11 + 3 * c) (j := c) rfl (by decide) (rfl : xSH[2]? = some _) (by decide) (by omega) (by omega) (by decide) (x_aa2 c (by omega)) (by omega) ?_
          refine ex_st 3 (pc' := 59) (ls' := [(0, xr 0), (1, xi k), (2, xi v), (3, xi w)]) (st' := [xi w, xi v, xi k, xr (11 + 3 * c)]) rfl ?_
          refine ex_callQ (ct_O_start (O := 11 + 3 * c) (k := k) (v := v) (w := w) (x_so1 c (by omega)).1 (x_so1 c (by omega)).2.1 (x_so1 c (by omega)).2.2 (by omega)) (by decide) rfl ⟨rfl, rfl, rfl⟩ ⟨Nat.le_of_ble_eq_true rfl, rfl, rfl⟩ (Nat.le_of_ble_eq_true rfl) (x_recv_v (by omega) (x_so1 c (by omega)).1 (by decide)) (fun ra m2 hQ => ?_)
          obtain ⟨rfl, I1, rfl, q0, q1, q2, q3, q4, q5, q6⟩ := hQ
          refine ex_st 4 (pc' := 70) (ls' := [(0, xr 0), (1, xi k), (2, xi v), (3, xi w)]) (st' := [xi (I1 1 1), xr 1]) rfl ?_
          rw [((q6 _ _ (by omega) (by omega) (by omega)) : I1 1 1 = I 1 1), hc1]
          refine ex_st 2 (pc' := 72) (ls' := [(0, xr 0), (1, xi k), (2, xi v), (3, xi w)]) (st' := [xi ((↑c) + 1), xr 1]) rfl ?_
          refine ex_pfi rfl (by decide) (rfl : xSH[1]? = some _) (by decide) rfl (by decide) (fun h => by cases h) ?_
          refine ex_st 2 (pc' := 79) (ls' := [(0, xr 0), (1, xi k), (2, xi v), (3, xi w)]) (st' := [xr 1]) rfl ?_
          refine ex_gfi rfl (by decide) (rfl : xSH[1]? = some _) (by decide) (by decide) rfl ?_
          rw [x_up_at _ 1 1 _]
          refine ex_st 2 (pc' := 84) (ls' := [(0, xr 0), (1, xi k), (2, xi v), (3, xi w)]) (st' := [xi (((↑c) + 1) - 1)]) rfl ?_
          refine ex_reti rfl rfl ?_
          refine x_CQ.of (M := xM_m_official) rfl (Nat.le_of_ble_eq_true rfl) ?_
          refine ex_st 4 (pc' := 5) (ls' := [(0, xr 143), (1, xi k), (2, xi v), (3, xi w)]) (st' := [xi 6, xi 0, xi k, xr 143]) rfl ?_
          refine ex_call (ct_m_in (by first | omega | (constructor <;> omega) | assumption) (by first | omega | (constructor <;> omega) | assumption) (by first | omega | (constructor <;> omega) | assumption)) (by decide) rfl ⟨rfl, rfl, rfl⟩ ⟨Nat.le_of_ble_eq_true rfl, rfl, rfl⟩ (Nat.le_of_ble_eq_true rfl) rfl ?_
          refine ex_bne rfl (fun h6 => ?_) (fun h6 => ?_)
          · refine ex_st 2 (pc' := 15) (ls' := [(0, xr 143), (1, xi k), (2, xi v), (3, xi w)]) (st' := [xi v, xr 143]) rfl ?_
            refine ex_call (ct_m_isDigitNumber (by first | omega | (constructor <;> omega) | assumption)) (by decide) rfl ⟨rfl, rfl, rfl⟩ ⟨Nat.le_of_ble_eq_true rfl, rfl, rfl⟩ (Nat.le_of_ble_eq_true rfl) rfl ?_
            refine ex_beq rfl (fun h7 => ?_) (fun h7 => ?_)
            · exfalso; omega
            · refine ex_st 2 (pc' := 23) (ls' := [(0, xr 143), (1, xi k), (2, xi v), (3, xi w)]) (st' := [xi w, xr 143]) rfl ?_
              refine ex_call (ct_m_isDigitNumber (by first | omega | (constructor <;> omega) | assumption)) (by decide) rfl ⟨rfl, rfl, rfl⟩ ⟨Nat.le_of_ble_eq_true rfl, rfl, rfl⟩ (Nat.le_of_ble_eq_true rfl) rfl ?_
              refine ex_bne rfl (fun h8 => ?_) (fun h8 => ?_)
              · refine ex_st 1 (pc' := 33) (ls' := [(0, xr 143), (1, xi k), (2, xi v), (3, xi w)]) (st' := [xr 143]) rfl ?_
                refine ex_gfi rfl (by decide) (rfl : xSH[143]? = some _) (by decide) (by decide) rfl ?_
                rw [x_up_far (k := 143) (j := 0) (k0 := 1) (j0 := 1) (by decide), ((q6 _ _ (by omega) (by omega) (by omega)) : I1 143 0 = I 143 0), hc0]
                refine ex_st 1 (pc' := 38) (ls' := [(0, xr 143), (1, xi k), (2, xi v), (3, xi w)]) (st' := [xi 6, xi (↑c)]) rfl ?_
                refine ex_ic rfl (by first | omega | (constructor <;> omega) | assumption) (by decide) (fun (h9 : ¬ (↑c : Int) = 6) => ?_) (fun (h9 : ¬ ¬ (↑c : Int) = 6) => ?_)
                · refine ex_st 3 (pc' := 49) (ls' := [(0, xr 143), (1, xi k), (2, xi v), (3, xi w)]) (st' := [xr 143, xr 144]) rfl ?_
                  refine ex_gfi rfl (by decide) (rfl : xSH[143]? = some _) (by decide) (by decide) rfl ?_
                  rw [x_up_far (k := 143) (j := 0) (k0 := 1) (j0 := 1) (by decide), ((q6 _ _ (by omega) (by omega) (by omega)) : I1 143 0 = I 143 0), hc0]
                  refine ex_st 1 (pc' := 53) (ls' := [(0, xr 143), (1, xi k), (2, xi v), (3, xi w)]) (st' := [xi k, xi (↑c), xr 144]) rfl ?_
                  refine ex_iast (j := c) rfl (by decide) (rfl : xSH[144]? = some _) (by omega) (by omega) (by decide) ?_
                  refine ex_st 3 (pc' := 59) (ls' := [(0, xr 143), (1, xi k), (2, xi v), (3, xi w)]) (st' := [xr 143, xr 145]) rfl ?_
                  refine ex_gfi rfl (by decide) (rfl : xSH[143]? = some _) (by decide) (by decide) rfl ?_
                  rw [x_up_far (k := 143) (j := 0) (k0 := 144) (j0 := c) (by first | decide | omega), x_up_far (k := 143) (j := 0) (k0 := 1) (j0 := 1) (by decide), ((q6 _ _ (by omega) (by omega) (by omega)) : I1 143 0 = I 143 0), hc0]
                  refine ex_st 1 (pc' := 63) (ls' := [(0, xr 143), (1, xi k), (2, xi v), (3, xi w)]) (st' := [xi v, xi (↑c), xr 145]) rfl ?_
                  refine ex_iast (j := c) rfl (by decide) (rfl : xSH[145]? = some _) (by omega) (by omega) (by decide) ?_
                  refine ex_st 3 (pc' := 69) (ls' := [(0, xr 143), (1, xi k), (2, xi v), (3, xi w)]) (st' := [xr 143, xr 146]) rfl ?_
                  refine ex_gfi rfl (by decide) (rfl : xSH[143]? = some _) (by decide) (by decide) rfl ?_
                  rw [x_up_far (k := 143) (j := 0) (k0 := 145) (j0 := c) (by first | decide | omega), x_up_far (k := 143) (j := 0) (k0 := 144) (j0 := c) (by first | decide | omega), x_up_far (k := 143) (j := 0) (k0 := 1) (j0 := 1) (by decide), ((q6 _ _ (by omega) (by omega) (by omega)) : I1 143 0 = I 143 0), hc0]
                  refine ex_st 1 (pc' := 73) (ls' := [(0, xr 143), (1, xi k), (2, xi v), (3, xi w)]) (st' := [xi w, xi (↑c), xr 146]) rfl ?_
                  refine ex_iast (j := c) rfl (by decide) (rfl : xSH[146]? = some _) (by omega) (by omega) (by decide) ?_
                  refine ex_st 2 (pc' := 76) (ls' := [(0, xr 143), (1, xi k), (2, xi v), (3, xi w)]) (st' := [xr 143, xr 143]) rfl ?_
                  refine ex_gfi rfl (by decide) (rfl : xSH[143]? = some _) (by decide) (by decide) rfl ?_
                  rw [x_up_far (k := 143) (j := 1) (k0 := 146) (j0 := c) (by first | decide | omega), x_up_far (k := 143) (j := 1) (k0 := 145) (j0 := c) (by first | decide | omega), x_up_far (k := 143) (j := 1) (k0 := 144) (j0 := c) (by first | decide | omega), x_up_far (k := 143) (j := 1) (k0 := 1) (j0 := 1) (by decide), ((q6 _ _ (by omega) (by omega) (by omega)) : I1 143 1 = I 143 1), hsa]
                  refine ex_st 2 (pc' := 81) (ls' := [(0, xr 143), (1, xi k), (2, xi v), (3, xi w)]) (st' := [xr 143, xi 1, xi (↑sa), xr 143]) rfl ?_
                  refine ex_gfi rfl (by decide) (rfl : xSH[143]? = some _) (by decide) (by decide) rfl ?_
                  rw [x_up_far (k := 143) (j := 0) (k0 := 146) (j0 := c) (by first | decide | omega), x_up_far (k := 143) (j := 0) (k0 := 145) (j0 := c) (by first | decide | omega), x_up_far (k := 143) (j := 0) (k0 := 144) (j0 := c) (by first | decide | omega), x_up_far (k := 143) (j := 0) (k0 := 1) (j0 := 1) (by decide), ((q6 _ _ (by omega) (by omega) (by omega)) : I1 143 0 = I 143 0), hc0]
                  refine ex_st 4 (pc' := 88) (ls' := [(0, xr 143), (1, xi k), (2, xi v), (3, xi w)]) (st' := [xi (z_and (↑sa) (z_xor (z_shl 1 (↑c)) (-1))), xr 143]) rfl ?_
                  refine ex_pfi rfl (by decide) (rfl : xSH[143]? = some _) (by decide) rfl (by decide) (fun h => by cases h) ?_
                  refine ex_st 2 (pc' := 94) (ls' := [(4, xi 0), (0, xr 143), (1, xi k), (2, xi v), (3, xi w)]) (st' := []) rfl ?_
                  generalize hM0 : (x_up (x_up (x_up (x_up (x_up I1 1 1 ((↑c) + 1)) 144 c k) 145 c v) 146 c w) 143 1 (z_and (↑sa) (z_xor (z_shl 1 (↑c)) (-1)))) = M0
                  have m0 : ∀ k j, ¬ ((k = 143 ∧ j = 1) ∨ (k = 146 ∧ j = c) ∨ (k = 145 ∧ j = c) ∨ (k = 144 ∧ j = c) ∨ (k = 1 ∧ j = 1)) → M0 k j = I1 k j := by intro k j hk; rw [← hM0]; (repeat rw [x_up_far (by omega)])
                  have g0 : M0 143 1 = (z_and (↑sa) (z_xor (z_shl 1 (↑c)) (-1))) := by rw [← hM0]; (repeat (first | rw [x_up_far (by omega)] | rw [x_up_at2 (by omega) (by omega)]))
                  have g1 : M0 146 c = w := by rw [← hM0]; (repeat (first | rw [x_up_far (by omega)] | rw [x_up_at2 (by omega) (by omega)]))
                  have g2 : M0 145 c = v := by rw [← hM0]; (repeat (first | rw [x_up_far (by omega)] | rw [x_up_at2 (by omega) (by omega)]))
                  have g3 : M0 144 c = k := by rw [← hM0]; (repeat (first | rw [x_up_far (by omega)] | rw [x_up_at2 (by omega) (by omega)]))
                  have g4 : M0 1 1 = ((↑c) + 1) := by rw [← hM0]; (repeat (first | rw [x_up_far (by omega)] | rw [x_up_at2 (by omega) (by omega)]))
                  clear hM0
                  refine ex_st 2 (pc' := 97) (ls' := [(4, xi 0), (0, xr 143), (1, xi k), (2, xi v), (3, xi w)]) (st' := [xi 5, xi 0]) rfl ?_
                  refine ex_st 1 (pc' := 100) (ls' := [(4, xi 0), (0, xr 143), (1, xi k), (2, xi v), (3, xi w)]) (st' := []) rfl ?_
                  refine ex_st 5 (pc' := 109) (ls' := [(4, xi 0), (0, xr 143), (1, xi k), (2, xi v), (3, xi w)]) (st' := [xi (M0 143 0), xi 5, xr 147]) rfl ?_
                  rw [(m0 _ _ (by omega) : M0 143 0 = I1 143 0), ((q6 _ _ (by omega) (by omega) (by omega)) : I1 143 0 = I 143 0), hc0]
                  refine ex_st 4 (pc' := 114) (ls' := [(4, xi 0), (0, xr 143), (1, xi k), (2, xi v), (3, xi w)]) (st' := [xi 5, xi ((5 * (↑c)) + 0), xr 147]) rfl ?_
                  refine ex_iast (j := ((5 * (c)) + 0)) rfl (by decide) (rfl : xSH[147]? = some _) (by omega) (by omega) (by decide) ?_
                  refine ex_st 2 (pc' := 94) (ls' := [(4, xi 1), (0, xr 143), (1, xi k), (2, xi v), (3, xi w)]) (st' := []) rfl ?_
                  refine ex_st 2 (pc' := 97) (ls' := [(4, xi 1), (0, xr 143), (1, xi k), (2, xi v), (3, xi w)]) (st' := [xi 5, xi 1]) rfl ?_
                  refine ex_st 1 (pc' := 100) (ls' := [(4, xi 1), (0, xr 143), (1, xi k), (2, xi v), (3, xi w)]) (st' := []) rfl ?_
                  refine ex_st 4 (pc' := 106) (ls' := [(4, xi 1), (0, xr 143), (1, xi k), (2, xi v), (3, xi w)]) (st' := [xr 143, xi 5, xr 147]) rfl ?_
                  refine ex_gfi rfl (by decide) (rfl : xSH[143]? = some _) (by decide) (by decide) rfl ?_
                  rw [x_up_far (k := 143) (j := 0) (k0 := 147) (j0 := (5 * (c)) + 0) (by first | decide | omega), (m0 _ _ (by omega) : M0 143 0 = I1 143 0), ((q6 _ _ (by omega) (by omega) (by omega)) : I1 143 0 = I 143 0), hc0]
                  refine ex_st 4 (pc' := 114) (ls' := [(4, xi 1), (0, xr 143), (1, xi k), (2, xi v), (3, xi w)]) (st' := [xi 5, xi ((5 * (↑c)) + 1), xr 147]) rfl ?_
                  refine ex_iast (j := ((5 * (c)) + 1)) rfl (by decide) (rfl : xSH[147]? = some _) (by omega) (by omega) (by decide) ?_
                  refine ex_st 2 (pc' := 94) (ls' := [(4, xi 2), (0, xr 143), (1, xi k), (2, xi v), (3, xi w)]) (st' := []) rfl ?_
                  refine ex_st 2 (pc' := 97) (ls' := [(4, xi 2), (0, xr 143), (1, xi k), (2, xi v), (3, xi w)]) (st' := [xi 5, xi 2]) rfl ?_
                  refine ex_st 1 (pc' := 100) (ls' := [(4, xi 2), (0, xr 143), (1, xi k), (2, xi v), (3, xi w)]) (st' := []) rfl ?_
                  refine ex_st 4 (pc' := 106) (ls' := [(4, xi 2), (0, xr 143), (1, xi k), (2, xi v), (3, xi w)]) (st' := [xr 143, xi 5, xr 147]) rfl ?_
                  refine ex_gfi rfl (by decide) (rfl : xSH[143]? = some _) (by decide) (by decide) rfl ?_
                  rw [x_up_far (k := 143) (j := 0) (k0 := 147) (j0 := (5 * (c)) + 1) (by first | decide | omega), x_up_far (k := 143) (j := 0) (k0 := 147) (j0 := (5 * (c)) + 0) (by first | decide | omega), (m0 _ _ (by omega) : M0 143 0 = I1 143 0), ((q6 _ _ (by omega) (by omega) (by omega)) : I1 143 0 = I 143 0), hc0]
                  refine ex_st 4 (pc' := 114) (ls' := [(4, xi 2), (0, xr 143), (1, xi k), (2, xi v), (3, xi w)]) (st' := [xi 5, xi ((5 * (↑c)) + 2), xr 147]) rfl ?_
                  refine ex_iast (j := ((5 * (c)) + 2)) rfl (by decide) (rfl : xSH[147]? = some _) (by omega) (by omega) (by decide) ?_
                  refine ex_st 2 (pc' := 94) (ls' := [(4, xi 3), (0, xr 143), (1, xi k), (2, xi v), (3, xi w)]) (st' := []) rfl ?_
                  refine ex_st 2 (pc' := 97) (ls' := [(4, xi 3), (0, xr 143), (1, xi k), (2, xi v), (3, xi w)]) (st' := [xi 5, xi 3]) rfl ?_
                  refine ex_st 1 (pc' := 100) (ls' := [(4, xi 3), (0, xr 143), (1, xi k), (2, xi v), (3, xi w)]) (st' := []) rfl ?_
                  refine ex_st 4 (pc' := 106) (ls' := [(4, xi 3), (0, xr 143), (1, xi k), (2, xi v), (3, xi w)]) (st' := [xr 143, xi 5, xr 147]) rfl ?_
                  refine ex_gfi rfl (by decide) (rfl : xSH[143]? = some _) (by decide) (by decide) rfl ?_
                  rw [x_up_far (k := 143) (j := 0) (k0 := 147) (j0 := (5 * (c)) + 2) (by first | decide | omega), x_up_far (k := 143) (j := 0) (k0 := 147) (j0 := (5 * (c)) + 1) (by first | decide | omega), x_up_far (k := 143) (j := 0) (k0 := 147) (j0 := (5 * (c)) + 0) (by first | decide | omega), (m0 _ _ (by omega) : M0 143 0 = I1 143 0), ((q6 _ _ (by omega) (by omega) (by omega)) : I1 143 0 = I 143 0), hc0]
                  refine ex_st 4 (pc' := 114) (ls' := [(4, xi 3), (0, xr 143), (1, xi k), (2, xi v), (3, xi w)]) (st' := [xi 5, xi ((5 * (↑c)) + 3), xr 147]) rfl ?_
                  refine ex_iast (j := ((5 * (c)) + 3)) rfl (by decide) (rfl : xSH[147]? = some _) (by omega) (by omega) (by decide) ?_
                  refine ex_st 2 (pc' := 94) (ls' := [(4, xi 4), (0, xr 143), (1, xi k), (2, xi v), (3, xi w)]) (st' := []) rfl ?_
                  refine ex_st 2 (pc' := 97) (ls' := [(4, xi 4), (0, xr 143), (1, xi k), (2, xi v), (3, xi w)]) (st' := [xi 5, xi 4]) rfl ?_
                  refine ex_st 1 (pc' := 100) (ls' := [(4, xi 4), (0, xr 143), (1, xi k), (2, xi v), (3, xi w)]) (st' := []) rfl ?_
                  refine ex_st 4 (pc' := 106) (ls' := [(4, xi 4), (0, xr 143), (1, xi k), (2, xi v), (3, xi w)]) (st' := [xr 143, xi 5, xr 147]) rfl ?_
                  refine ex_gfi rfl (by decide) (rfl : xSH[143]? = some _) (by decide) (by decide) rfl ?_
                  rw [x_up_far (k := 143) (j := 0) (k0 := 147) (j0 := (5 * (c)) + 3) (by first | decide | omega), x_up_far (k := 143) (j := 0) (k0 := 147) (j0 := (5 * (c)) + 2) (by first | decide | omega), x_up_far (k := 143) (j := 0) (k0 := 147) (j0 := (5 * (c)) + 1) (by first | decide | omega), x_up_far (k := 143) (j := 0) (k0 := 147) (j0 := (5 * (c)) + 0) (by first | decide | omega), (m0 _ _ (by omega) : M0 143 0 = I1 143 0), ((q6 _ _ (by omega) (by omega) (by omega)) : I1 143 0 = I 143 0), hc0]
                  refine ex_st 4 (pc' := 114) (ls' := [(4, xi 4), (0, xr 143), (1, xi k), (2, xi v), (3, xi w)]) (st' := [xi 5, xi ((5 * (↑c)) + 4), xr 147]) rfl ?_
                  refine ex_iast (j := ((5 * (c)) + 4)) rfl (by decide) (rfl : xSH[147]? = some _) (by omega) (by omega) (by decide) ?_
                  refine ex_st 2 (pc' := 94) (ls' := [(4, xi 5), (0, xr 143), (1, xi k), (2, xi v), (3, xi w)]) (st' := []) rfl ?_
                  refine ex_st 2 (pc' := 97) (ls' := [(4, xi 5), (0, xr 143), (1, xi k), (2, xi v), (3, xi w)]) (st' := [xi 5, xi 5]) rfl ?_
                  refine ex_st 1 (pc' := 121) (ls' := [(4, xi 5), (0, xr 143), (1, xi k), (2, xi v), (3, xi w)]) (st' := []) rfl ?_
                  generalize hM1 : (x_up (x_up (x_up (x_up (x_up M0 147 ((5 * (c)) + 0) 5) 147 ((5 * (c)) + 1) 5) 147 ((5 * (c)) + 2) 5) 147 ((5 * (c)) + 3) 5) 147 ((5 * (c)) + 4) 5) = M1
                  have m1 : ∀ k j, ¬ (k = 147 ∧ 5 * c ≤ j ∧ j < 5 * c + 5) → M1 k j = M0 k j := by intro k j hk; rw [← hM1]; (repeat rw [x_up_far (by omega)])
                  have b1 : ∀ x, x < 5 → M1 147 (5 * c + x) = 5 := by intro x hx; rcases (show x = 0 ∨ x = 1 ∨ x = 2 ∨ x = 3 ∨ x = 4 by omega) with rfl | rfl | rfl | rfl | rfl <;> (rw [← hM1]; (repeat (first | rw [x_up_far (by omega)] | rw [x_up_at2 (by omega) (by omega)])))
                  clear hM1
                  refine ex_st 4 (pc' := 127) (ls' := [(4, xi 0), (0, xr 143), (1, xi k), (2, xi v), (3, xi w)]) (st' := [xi 4, xi 0]) rfl ?_
                  refine ex_st 1 (pc' := 130) (ls' := [(4, xi 0), (0, xr 143), (1, xi k), (2, xi v), (3, xi w)]) (st' := []) rfl ?_
                  refine ex_st 5 (pc' := 139) (ls' := [(4, xi 0), (0, xr 143), (1, xi k), (2, xi v), (3, xi w)]) (st' := [xi (M1 143 0), xi 4, xr 148]) rfl ?_
                  rw [(m1 _ _ (by omega) : M1 143 0 = M0 143 0), (m0 _ _ (by omega) : M0 143 0 = I1 143 0), ((q6 _ _ (by omega) (by omega) (by omega)) : I1 143 0 = I 143 0), hc0]
                  refine ex_st 4 (pc' := 144) (ls' := [(4, xi 0), (0, xr 143), (1, xi k), (2, xi v), (3, xi w)]) (st' := [xi 0, xi ((4 * (↑c)) + 0), xr 148]) rfl ?_
                  refine ex_iast (j := ((4 * (c)) + 0)) rfl (by decide) (rfl : xSH[148]? = some _) (by omega) (by omega) (by decide) ?_
                  refine ex_st 4 (pc' := 127) (ls' := [(4, xi 1), (0, xr 143), (1, xi k), (2, xi v), (3, xi w)]) (st' := [xi 4, xi 1]) rfl ?_
                  refine ex_st 1 (pc' := 130) (ls' := [(4, xi 1), (0, xr 143), (1, xi k), (2, xi v), (3, xi w)]) (st' := []) rfl ?_
                  refine ex_st 4 (pc' := 136) (ls' := [(4, xi 1), (0, xr 143), (1, xi k), (2, xi v), (3, xi w)]) (st' := [xr 143, xi 4, xr 148]) rfl ?_
                  refine ex_gfi rfl (by decide) (rfl : xSH[143]? = some _) (by decide) (by decide) rfl ?_
                  rw [x_up_far (k := 143) (j := 0) (k0 := 148) (j0 := (4 * (c)) + 0) (by first | decide | omega), (m1 _ _ (by omega) : M1 143 0 = M0 143 0), (m0 _ _ (by omega) : M0 143 0 = I1 143 0), ((q6 _ _ (by omega) (by omega) (by omega)) : I1 143 0 = I 143 0), hc0]
                  refine ex_st 4 (pc' := 144) (ls' := [(4, xi 1), (0, xr 143), (1, xi k), (2, xi v), (3, xi w)]) (st' := [xi 0, xi ((4 * (↑c)) + 1), xr 148]) rfl ?_
                  refine ex_iast (j := ((4 * (c)) + 1)) rfl (by decide) (rfl : xSH[148]? = some _) (by omega) (by omega) (by decide) ?_
                  refine ex_st 4 (pc' := 127) (ls' := [(4, xi 2), (0, xr 143), (1, xi k), (2, xi v), (3, xi w)]) (st' := [xi 4, xi 2]) rfl ?_
                  refine ex_st 1 (pc' := 130) (ls' := [(4, xi 2), (0, xr 143), (1, xi k), (2, xi v), (3, xi w)]) (st' := []) rfl ?_
                  refine ex_st 4 (pc' := 136) (ls' := [(4, xi 2), (0, xr 143), (1, xi k), (2, xi v), (3, xi w)]) (st' := [xr 143, xi 4, xr 148]) rfl ?_
                  refine ex_gfi rfl (by decide) (rfl : xSH[143]? = some _) (by decide) (by decide) rfl ?_
                  rw [x_up_far (k := 143) (j := 0) (k0 := 148) (j0 := (4 * (c)) + 1) (by first | decide | omega), x_up_far (k := 143) (j := 0) (k0 := 148) (j0 := (4 * (c)) + 0) (by first | decide | omega), (m1 _ _ (by omega) : M1 143 0 = M0 143 0), (m0 _ _ (by omega) : M0 143 0 = I1 143 0), ((q6 _ _ (by omega) (by omega) (by omega)) : I1 143 0 = I 143 0), hc0]
                  refine ex_st 4 (pc' := 144) (ls' := [(4, xi 2), (0, xr 143), (1, xi k), (2, xi v), (3, xi w)]) (st' := [xi 0, xi ((4 * (↑c)) + 2), xr 148]) rfl ?_
                  refine ex_iast (j := ((4 * (c)) + 2)) rfl (by decide) (rfl : xSH[148]? = some _) (by omega) (by omega) (by decide) ?_
                  refine ex_st 4 (pc' := 127) (ls' := [(4, xi 3), (0, xr 143), (1, xi k), (2, xi v), (3, xi w)]) (st' := [xi 4, xi 3]) rfl ?_
                  refine ex_st 1 (pc' := 130) (ls' := [(4, xi 3), (0, xr 143), (1, xi k), (2, xi v), (3, xi w)]) (st' := []) rfl ?_
                  refine ex_st 4 (pc' := 136) (ls' := [(4, xi 3), (0, xr 143), (1, xi k), (2, xi v), (3, xi w)]) (st' := [xr 143, xi 4, xr 148]) rfl ?_
                  refine ex_gfi rfl (by decide) (rfl : xSH[143]? = some _) (by decide) (by decide) rfl ?_
                  rw [x_up_far (k := 143) (j := 0) (k0 := 148) (j0 := (4 * (c)) + 2) (by first | decide | omega), x_up_far (k := 143) (j := 0) (k0 := 148) (j0 := (4 * (c)) + 1) (by first | decide | omega), x_up_far (k := 143) (j := 0) (k0 := 148) (j0 := (4 * (c)) + 0) (by first | decide | omega), (m1 _ _ (by omega) : M1 143 0 = M0 143 0), (m0 _ _ (by omega) : M0 143 0 = I1 143 0), ((q6 _ _ (by omega) (by omega) (by omega)) : I1 143 0 = I 143 0), hc0]
                  refine ex_st 4 (pc' := 144) (ls' := [(4, xi 3), (0, xr 143), (1, xi k), (2, xi v), (3, xi w)]) (st' := [xi 0, xi ((4 * (↑c)) + 3), xr 148]) rfl ?_
                  refine ex_iast (j := ((4 * (c)) + 3)) rfl (by decide) (rfl : xSH[148]? = some _) (by omega) (by omega) (by decide) ?_
                  refine ex_st 4 (pc' := 127) (ls' := [(4, xi 4), (0, xr 143), (1, xi k), (2, xi v), (3, xi w)]) (st' := [xi 4, xi 4]) rfl ?_
                  refine ex_st 1 (pc' := 151) (ls' := [(4, xi 4), (0, xr 143), (1, xi k), (2, xi v), (3, xi w)]) (st' := []) rfl ?_
                  generalize hM2 : (x_up (x_up (x_up (x_up M1 148 ((4 * (c)) + 0) 0) 148 ((4 * (c)) + 1) 0) 148 ((4 * (c)) + 2) 0) 148 ((4 * (c)) + 3) 0) = M2
                  have m2 : ∀ k j, ¬ (k = 148 ∧ 4 * c ≤ j ∧ j < 4 * c + 4) → M2 k j = M1 k j := by intro k j hk; rw [← hM2]; (repeat rw [x_up_far (by omega)])
                  have b2 : ∀ x, x < 4 → M2 148 (4 * c + x) = 0 := by intro x hx; rcases (show x = 0 ∨ x = 1 ∨ x = 2 ∨ x = 3 by omega) with rfl | rfl | rfl | rfl <;> (rw [← hM2]; (repeat (first | rw [x_up_far (by omega)] | rw [x_up_at2 (by omega) (by omega)])))
                  clear hM2
                  refine ex_st 3 (pc' := 156) (ls' := [(4, xi 4), (0, xr 143), (1, xi k), (2, xi v), (3, xi w)]) (st' := [xi (M2 143 0), xr 143]) rfl ?_
                  rw [(m2 _ _ (by omega) : M2 143 0 = M1 143 0), (m1 _ _ (by omega) : M1 143 0 = M0 143 0), (m0 _ _ (by omega) : M0 143 0 = I1 143 0), ((q6 _ _ (by omega) (by omega) (by omega)) : I1 143 0 = I 143 0), hc0]
                  refine ex_st 2 (pc' := 158) (ls' := [(4, xi 4), (0, xr 143), (1, xi k), (2, xi v), (3, xi w)]) (st' := [xi ((↑c) + 1), xr 143]) rfl ?_
                  refine ex_pfi rfl (by decide) (rfl : xSH[143]? = some _) (by decide) rfl (by decide) (fun h => by cases h) ?_
                  refine ex_st 1 (pc' := 162) (ls' := [(4, xi 4), (0, xr 143), (1, xi k), (2, xi v), (3, xi w)]) (st' := [xr 143]) rfl ?_
                  refine ex_gfi rfl (by decide) (rfl : xSH[143]? = some _) (by decide) (by decide) rfl ?_
                  rw [x_up_at _ 143 0 _]
                  refine ex_st 2 (pc' := 167) (ls' := [(4, xi 4), (0, xr 143), (1, xi k), (2, xi v), (3, xi w)]) (st' := [xi (((↑c) + 1) - 1)]) rfl ?_
                  refine ex_reti rfl rfl ?_
                  refine ⟨x_req (by first | rfl | omega), _, _, rfl, ?_⟩
                  have hz := z_set0 sa (by omega) c (by omega)
                  generalize hM : (x_up M2 143 0 ((↑c) + 1)) = I2
                  have hF : ∀ k j, ¬ ((k = 143 ∧ j = 0) ∨ (k = 147 ∧ 5 * c ≤ j ∧ j < 5 * c + 5) ∨ (k = 148 ∧ 4 * c ≤ j ∧ j < 4 * c + 4) ∨ (k = 143 ∧ j = 1) ∨ (k = 146 ∧ j = c) ∨ (k = 145 ∧ j = c) ∨ (k = 144 ∧ j = c) ∨ (k = 1 ∧ j = 1) ∨ k = 11 + 3 * c ∨ k = 12 + 3 * c ∨ k = 13 + 3 * c) → I2 k j = I k j := fun k j hk => by rw [← hM, x_up_far (by omega), m2 _ _ (by omega), m1 _ _ (by omega), m0 _ _ (by omega), q6 _ _ (by omega) (by omega) (by omega)]
                  have c0 : I2 143 0 = (c : Int) + 1 := by rw [← hM, x_up_at]
                  have e0 : I2 143 1 = (z_and (↑sa) (z_xor (z_shl 1 (↑c)) (-1))) := by rw [← hM, x_up_far (by omega), m2 _ _ (by omega), m1 _ _ (by omega)]; exact g0
                  have e1 : I2 146 c = w := by rw [← hM, x_up_far (by omega), m2 _ _ (by omega), m1 _ _ (by omega)]; exact g1
                  have e2 : I2 145 c = v := by rw [← hM, x_up_far (by omega), m2 _ _ (by omega), m1 _ _ (by omega)]; exact g2
                  have e3 : I2 144 c = k := by rw [← hM, x_up_far (by omega), m2 _ _ (by omega), m1 _ _ (by omega)]; exact g3
                  have e4 : I2 1 1 = ((↑c) + 1) := by rw [← hM, x_up_far (by omega), m2 _ _ (by omega), m1 _ _ (by omega)]; exact g4
                  have p0 : I2 (11 + 3 * c) 0 = k := by rw [← hM, x_up_far (by omega), m2 _ _ (by omega), m1 _ _ (by omega), m0 _ _ (by omega)]; exact q0
                  have p1 : I2 (11 + 3 * c) 1 = v := by rw [← hM, x_up_far (by omega), m2 _ _ (by omega), m1 _ _ (by omega), m0 _ _ (by omega)]; exact q1
                  have p2 : I2 (11 + 3 * c) 2 = w := by rw [← hM, x_up_far (by omega), m2 _ _ (by omega), m1 _ _ (by omega), m0 _ _ (by omega)]; exact q2
                  have p3 : I2 (11 + 3 * c) 3 = 0 := by rw [← hM, x_up_far (by omega), m2 _ _ (by omega), m1 _ _ (by omega), m0 _ _ (by omega)]; exact q3
                  have p4 : ∀ x, x < 5 → I2 (11 + 3 * c + 1) x = 5 := fun x hx => by rw [← hM, x_up_far (by omega), m2 _ _ (by omega), m1 _ _ (by omega), m0 _ _ (by omega)]; exact q4 x hx
                  have p5 : ∀ x, x < 4 → I2 (11 + 3 * c + 2) x = 0 := fun x hx => by rw [← hM, x_up_far (by omega), m2 _ _ (by omega), m1 _ _ (by omega), m0 _ _ (by omega)]; exact q5 x hx
                  have p6 : ∀ x, x < 5 → I2 147 (5 * c + x) = 5 := fun x hx => by rw [← hM, x_up_far (by omega), m2 _ _ (by omega)]; exact b1 x hx
                  have p7 : ∀ x, x < 4 → I2 148 (4 * c + x) = 0 := fun x hx => by rw [← hM, x_up_far (by omega)]; exact b2 x hx
                  clear hM
                  generalize hzz : z_and (↑sa) (z_xor (z_shl 1 (↑c)) (-1)) = zz at *
                  have hI2 : RIw I2 := by
                    obtain ⟨gs, go, ga, gb, gr, gd, gg, ge, gp, gk⟩ := id hI
                    exact ⟨gs.fr ⟨by (repeat rw [hF _ _ (by omega)]); try rfl, by (repeat rw [hF _ _ (by omega)]); try rfl, by (repeat rw [hF _ _ (by omega)]); try rfl, by (repeat rw [hF _ _ (by omega)]); try rfl, by (repeat rw [hF _ _ (by omega)]); try rfl, by (repeat rw [hF _ _ (by omega)]); try rfl, by (repeat rw [hF _ _ (by omega)]); try rfl, by (repeat rw [hF _ _ (by omega)]); try rfl, by (repeat rw [hF _ _ (by omega)]); try rfl⟩, go.fr (by intros; (repeat rw [hF _ _ (by omega)]); try rfl) (by intros; (repeat rw [hF _ _ (by omega)]); try rfl), ga.fr (by intros; (repeat rw [hF _ _ (by omega)]); try rfl) (by (repeat rw [hF _ _ (by omega)]); try rfl), gb.fr (by intros; (repeat rw [hF _ _ (by omega)]); try rfl) (by intros; (repeat rw [hF _ _ (by omega)]); try rfl), gr.fr (by intros; (repeat rw [hF _ _ (by omega)]); try rfl) (by intros; (repeat rw [hF _ _ (by omega)]); try rfl), gd.fr (by intros; (repeat rw [hF _ _ (by omega)]); try rfl) (by intros; (repeat rw [hF _ _ (by omega)]); try rfl) (by (repeat rw [hF _ _ (by omega)]); try rfl), gg.fr ⟨by (repeat rw [hF _ _ (by omega)]); try rfl, by (repeat rw [hF _ _ (by omega)]); try rfl⟩ (by intros; (repeat rw [hF _ _ (by omega)]); try rfl) (by intros; (repeat rw [hF _ _ (by omega)]); try rfl), ge.fr ⟨by (repeat rw [hF _ _ (by omega)]); try rfl, by (repeat rw [hF _ _ (by omega)]); try rfl, by (repeat rw [hF _ _ (by omega)]); try rfl⟩ (by intros; (repeat rw [hF _ _ (by omega)]); try rfl) (by intros; (repeat rw [hF _ _ (by omega)]); try rfl), gp.fr ⟨by (repeat rw [hF _ _ (by omega)]); try rfl, by (repeat rw [hF _ _ (by omega)]); try rfl, by (repeat rw [hF _ _ (by omega)]); try rfl⟩ (by intros; (repeat rw [hF _ _ (by omega)]); try rfl) (by intros; (repeat rw [hF _ _ (by omega)]); try rfl), gk.fr ⟨by (repeat rw [hF _ _ (by omega)]); try rfl, by (repeat rw [hF _ _ (by omega)]); try rfl, by (repeat rw [hF _ _ (by omega)]); try rfl⟩ (by intros; (repeat rw [hF _ _ (by omega)]); try rfl) (by intros; (repeat rw [hF _ _ (by omega)]); try rfl)⟩
                  refine ⟨⟨?_, ?_, ?_, ?_, ?_, hNd.fr (by intros; (repeat rw [hF _ _ (by omega)]); try rfl) (by intros; (repeat rw [hF _ _ (by omega)]); try rfl) (by (repeat rw [hF _ _ (by omega)]); try rfl), hNg.fr ⟨by (repeat rw [hF _ _ (by omega)]); try rfl, by (repeat rw [hF _ _ (by omega)]); try rfl⟩ (by intros; (repeat rw [hF _ _ (by omega)]); try rfl) (by intros; (repeat rw [hF _ _ (by omega)]); try rfl), hNe.fr ⟨by (repeat rw [hF _ _ (by omega)]); try rfl, by (repeat rw [hF _ _ (by omega)]); try rfl, by (repeat rw [hF _ _ (by omega)]); try rfl⟩ (by intros; (repeat rw [hF _ _ (by omega)]); try rfl) (by intros; (repeat rw [hF _ _ (by omega)]); try rfl), hNp.fr ⟨by (repeat rw [hF _ _ (by omega)]); try rfl, by (repeat rw [hF _ _ (by omega)]); try rfl, by (repeat rw [hF _ _ (by omega)]); try rfl⟩ (by intros; (repeat rw [hF _ _ (by omega)]); try rfl) (by intros; (repeat rw [hF _ _ (by omega)]); try rfl), hNk.fr ⟨by (repeat rw [hF _ _ (by omega)]); try rfl, by (repeat rw [hF _ _ (by omega)]); try rfl, by (repeat rw [hF _ _ (by omega)]); try rfl⟩ (by intros; (repeat rw [hF _ _ (by omega)]); try rfl) (by intros; (repeat rw [hF _ _ (by omega)]); try rfl)⟩, hI2, hT.fr ⟨by (repeat rw [hF _ _ (by omega)]); try rfl, by (repeat rw [hF _ _ (by omega)]); try rfl⟩ (by intros; (repeat rw [hF _ _ (by omega)]); try rfl) (by intros; (repeat rw [hF _ _ (by omega)]); try rfl) (by intros; (repeat rw [hF _ _ (by omega)]); try rfl), hX.fr ⟨by (repeat rw [hF _ _ (by omega)]); try rfl, by (repeat rw [hF _ _ (by omega)]); try rfl⟩ (by intros; (repeat rw [hF _ _ (by omega)]); try rfl), hC.fr ⟨by (repeat rw [hF _ _ (by omega)]); try rfl, by (repeat rw [hF _ _ (by omega)]); try rfl⟩ (by intros; (repeat rw [hF _ _ (by omega)]); try rfl), hH.fr ⟨by (repeat rw [hF _ _ (by omega)]); try rfl, by (repeat rw [hF _ _ (by omega)]); try rfl, by (repeat rw [hF _ _ (by omega)]); try rfl⟩ (by intros; (repeat rw [hF _ _ (by omega)]); try rfl) (by intros; (repeat rw [hF _ _ (by omega)]); try rfl), hQ.fr (by intros; (repeat rw [hF _ _ (by omega)]); try rfl) (by intros; (repeat rw [hF _ _ (by omega)]); try rfl) (by intros; (repeat rw [hF _ _ (by omega)]); try rfl) (by intros; (repeat rw [hF _ _ (by omega)]); try rfl)⟩
                  · unfold RNs at *
                    have d1 := hF 1 5 (by omega)
                    have d2 := hF 1 6 (by omega)
                    have d3 := hF 1 7 (by omega)
                    have d4 := hF 143 3 (by omega)
                    have d5 := hF 143 4 (by omega)
                    have d6 := hF 143 13 (by omega)
                    have d7 := hF 143 12 (by omega)
                    refine ⟨?_, ?_, ?_, ?_, ?_, ?_, ?_, ?_, ?_, ?_, ?_, ?_⟩ <;> omega
                  · intro p hp
                    have h := hNo p hp
                    by_cases hpn : p = c
                    · subst hpn; refine ⟨?_, ?_, ?_, ?_, ?_, ?_, ?_, ?_, ?_⟩ <;> omega
                    · rw [hF _ _ (by omega), hF _ _ (by omega), hF _ _ (by omega), hF _ _ (by omega), hF _ _ (by omega), hF _ _ (by omega)]; exact h
                  · have ea : I2 143 1 = zz := by first | exact e0 | exact e1 | exact e2 | exact e3 | exact e4
                    refine ⟨fun p hp => ?_, by rw [ea]; exact hz.1, by rw [ea]; exact hz.2.1⟩
                    have h1 := hna p hp
                    have h2 := hz.2.2 p hp
                    rw [ea]
                    by_cases hpn : p = c
                    · subst hpn; simp only [if_true] at h2; rw [h2, p3]; simp [x_b]
                    · rw [if_neg hpn] at h2; rw [h2, hF _ _ (by omega)]; exact h1
                  · intro p q hp hq
                    have h := hNb p q hp hq
                    by_cases hpn : p = c
                    · subst hpn; rw [p4 q hq, p6 q hq]; decide
                    · rw [hF _ _ (by omega), hF _ _ (by omega)]; exact h
                  · intro p q hp hq
                    have h := hNr p q hp hq
                    by_cases hpn : p = c
                    · subst hpn; rw [p5 q hq, p7 q hq]; decide
                    · rw [hF _ _ (by omega), hF _ _ (by omega)]; exact h
                · exfalso; omega
              · exfalso; omega
          · exfalso; omega
        · refine ex_st 1 (pc' := 40) (ls' := [(0, xr 0), (1, xi k), (2, xi v), (3, xi w)]) (st' := [xi (-4)]) rfl ?_
          refine ex_reti rfl rfl ?_
          refine x_CQ.of (M := xM_m_official) rfl (Nat.le_of_ble_eq_true rfl) ?_
          refine ex_st 4 (pc' := 5) (ls' := [(0, xr 143), (1, xi k), (2, xi v), (3, xi w)]) (st' := [xi 6, xi 0, xi k, xr 143]) rfl ?_
          refine ex_call (ct_m_in (by first | omega | (constructor <;> omega) | assumption) (by first | omega | (constructor <;> omega) | assumption) (by first | omega | (constructor <;> omega) | assumption)) (by decide) rfl ⟨rfl, rfl, rfl⟩ ⟨Nat.le_of_ble_eq_true rfl, rfl, rfl⟩ (Nat.le_of_ble_eq_true rfl) rfl ?_
          refine ex_bne rfl (fun h10 => ?_) (fun h10 => ?_)
          · refine ex_st 2 (pc' := 15) (ls' := [(0, xr 143), (1, xi k), (2, xi v), (3, xi w)]) (st' := [xi v, xr 143]) rfl ?_
            refine ex_call (ct_m_isDigitNumber (by first | omega | (constructor <;> omega) | assumption)) (by decide) rfl ⟨rfl, rfl, rfl⟩ ⟨Nat.le_of_ble_eq_true rfl, rfl, rfl⟩ (Nat.le_of_ble_eq_true rfl) rfl ?_
            refine ex_beq rfl (fun h11 => ?_) (fun h11 => ?_)
            · exfalso; omega
            · refine ex_st 2 (pc' := 23) (ls' := [(0, xr 143), (1, xi k), (2, xi v), (3, xi w)]) (st' := [xi w, xr 143]) rfl ?_
              refine ex_call (ct_m_isDigitNumber (by first | omega | (constructor <;> omega) | assumption)) (by decide) rfl ⟨rfl, rfl, rfl⟩ ⟨Nat.le_of_ble_eq_true rfl, rfl, rfl⟩ (Nat.le_of_ble_eq_true rfl) rfl ?_
              refine ex_bne rfl (fun h12 => ?_) (fun h12 => ?_)
              · refine ex_st 2 (pc' := 36) (ls' := [(0, xr 143), (1, xi k), (2, xi v), (3, xi w)]) (st' := [xi (I 143 0)]) rfl ?_
                rw [hc0]
                refine ex_st 1 (pc' := 38) (ls' := [(0, xr 143), (1, xi k), (2, xi v), (3, xi w)]) (st' := [xi 6, xi (↑c)]) rfl ?_
                refine ex_ic rfl (by first | omega | (constructor <;> omega) | assumption) (by decide) (fun (h13 : ¬ (↑c : Int) = 6) => ?_) (fun (h13 : ¬ ¬ (↑c : Int) = 6) => ?_)
                · exfalso; omega
                · refine ex_st 1 (pc' := 43) (ls' := [(0, xr 143), (1, xi k), (2, xi v), (3, xi w)]) (st' := [xi (-4)]) rfl ?_
                  refine ex_reti rfl rfl ?_
                  exact ⟨x_req (by first | rfl | omega), _, _, rfl, hR⟩
              · exfalso; omega
          · exfalso; omega
      · refine ex_st 1 (pc' := 25) (ls' := [(0, xr 0), (1, xi k), (2, xi v), (3, xi w)]) (st' := [xi (-2)]) rfl ?_
        refine ex_reti rfl rfl ?_
        refine x_CQ.of (M := xM_m_official) rfl (Nat.le_of_ble_eq_true rfl) ?_
        refine ex_st 4 (pc' := 5) (ls' := [(0, xr 143), (1, xi k), (2, xi v), (3, xi w)]) (st' := [xi 6, xi 0, xi k, xr 143]) rfl ?_
        refine ex_call (ct_m_in (by first | omega | (constructor <;> omega) | assumption) (by first | omega | (constructor <;> omega) | assumption) (by first | omega | (constructor <;> omega) | assumption)) (by decide) rfl ⟨rfl, rfl, rfl⟩ ⟨Nat.le_of_ble_eq_true rfl, rfl, rfl⟩ (Nat.le_of_ble_eq_true rfl) rfl ?_
        refine ex_bne rfl (fun h14 => ?_) (fun h14 => ?_)
        · refine ex_st 2 (pc' := 15) (ls' := [(0, xr 143), (1, xi k), (2, xi v), (3, xi w)]) (st' := [xi v, xr 143]) rfl ?_
          refine ex_call (ct_m_isDigitNumber (by first | omega | (constructor <;> omega) | assumption)) (by decide) rfl ⟨rfl, rfl, rfl⟩ ⟨Nat.le_of_ble_eq_true rfl, rfl, rfl⟩ (Nat.le_of_ble_eq_true rfl) rfl ?_
          refine ex_beq rfl (fun h15 => ?_) (fun h15 => ?_)
          · exfalso; omega
          · refine ex_st 2 (pc' := 23) (ls' := [(0, xr 143), (1, xi k), (2, xi v), (3, xi w)]) (st' := [xi w, xr 143]) rfl ?_
            refine ex_call (ct_m_isDigitNumber (by first | omega | (constructor <;> omega) | assumption)) (by decide) rfl ⟨rfl, rfl, rfl⟩ ⟨Nat.le_of_ble_eq_true rfl, rfl, rfl⟩ (Nat.le_of_ble_eq_true rfl) rfl ?_
            refine ex_bne rfl (fun h16 => ?_) (fun h16 => ?_)
            · exfalso; omega
            · refine ex_st 1 (pc' := 31) (ls' := [(0, xr 143), (1, xi k), (2, xi v), (3, xi w)]) (st' := [xi (-2)]) rfl ?_
              refine ex_reti rfl rfl ?_
              exact ⟨x_req (by first | rfl | omega), _, _, rfl, hR⟩
        · exfalso; omega
  · refine ex_st 1 (pc' := 8) (ls' := [(0, xr 0), (1, xi k), (2, xi v), (3, xi w)]) (st' := [xi (-1)]) rfl ?_
    refine ex_reti rfl rfl ?_
    refine x_CQ.of (M := xM_m_official) rfl (Nat.le_of_ble_eq_true rfl) ?_
    refine ex_st 4 (pc' := 5) (ls' := [(0, xr 143), (1, xi k), (2, xi v), (3, xi w)]) (st' := [xi 6, xi 0, xi k, xr 143]) rfl ?_
    refine ex_call (ct_m_in (by first | omega | (constructor <;> omega) | assumption) (by first | omega | (constructor <;> omega) | assumption) (by first | omega | (constructor <;> omega) | assumption)) (by decide) rfl ⟨rfl, rfl, rfl⟩ ⟨Nat.le_of_ble_eq_true rfl, rfl, rfl⟩ (Nat.le_of_ble_eq_true rfl) rfl ?_
    refine ex_bne rfl (fun h17 => ?_) (fun h17 => ?_)
    · exfalso; omega
    · refine ex_st 1 (pc' := 12) (ls' := [(0, xr 143), (1, xi k), (2, xi v), (3, xi w)]) (st' := [xi (-1)]) rfl ?_
      refine ex_reti rfl rfl ?_
      exact ⟨x_req (by first | rfl | omega), _, _, rfl, hR⟩
