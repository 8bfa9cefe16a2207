/-! pairs of calls: see, plan, book -/
theorem op_see {sc : List Int} {I : Nat → Nat → Int} {L : Nat → Nat → Int64} (hR : Rl I L) {t x y b : Int} (ht : x_R t) (hx : x_R x) (hy : x_R y) (hb : b = 0 ∨ b = 1) : x_PQ sc xN_G_see [xr 0, xi t, xi x, xi y, xi b] xN_m_see [xr 143, xi t, xi x, xi y, xi b] (xSH, I, L) := by
  obtain ⟨⟨hNs, hNo, hNa, hNb, hNr, hNd, hNg, hNe, hNp, hNk⟩, hI, hT, hX, hC, hH, hQ⟩ := id hR
  have hs := hNs
  unfold RNs at hs
  obtain ⟨hz1, hz2, hz3, hz4, hz5⟩ := id hNe
  obtain ⟨c, hc0⟩ := Int.eq_ofNat_of_zero_le hz2
  have hc1 : I 5 2 = (c : Int) := by omega
  refine x_CQ.of (M := xM_G_see) rfl (Nat.le_of_ble_eq_true rfl) ?_
  refine ex_st 2 (pc' := 2) (ls' := [(0, xr 0), (1, xi t), (2, xi x), (3, xi y), (4, xi b)]) (st' := [xi (-1), xi t]) rfl ?_
  refine ex_ic rfl (by first | omega | (constructor <;> omega) | assumption) (by decide) (fun (h0 : ¬ t = (-1)) => ?_) (fun (h0 : ¬ ¬ t = (-1)) => ?_)
  · refine ex_st 2 (pc' := 20) (ls' := [(0, xr 0), (1, xi t), (2, xi x), (3, xi y), (4, xi b)]) (st' := [xi t, xr 0]) rfl ?_
    refine ex_call (ct_G_isOfficial2 (c := I 1 1) (by first | omega | (constructor <;> omega) | assumption | ((repeat rw [x_up_far (by omega)]); first | rfl | omega | (constructor <;> omega))) (by (repeat rw [x_up_far (by omega)]); try rfl) (by first | omega | (constructor <;> omega) | assumption | ((repeat rw [x_up_far (by omega)]); first | rfl | omega | (constructor <;> omega)))) (by decide) rfl ⟨rfl, rfl, rfl⟩ ⟨Nat.le_of_ble_eq_true rfl, rfl, rfl⟩ (Nat.le_of_ble_eq_true rfl) rfl ?_
    refine ex_beq rfl (fun h1 => ?_) (fun h1 => ?_)
    · refine ex_st 1 (pc' := 41) (ls' := [(0, xr 0), (1, xi t), (2, xi x), (3, xi y), (4, xi b)]) (st' := [xi (-1)]) rfl ?_
      refine ex_reti rfl rfl ?_
      refine x_CQ.of (M := xM_m_see) rfl (Nat.le_of_ble_eq_true rfl) ?_
      refine ex_st 2 (pc' := 2) (ls' := [(0, xr 143), (1, xi t), (2, xi x), (3, xi y), (4, xi b)]) (st' := [xi (-1), xi t]) rfl ?_
      refine ex_ic rfl (by first | omega | (constructor <;> omega) | assumption) (by decide) (fun (h2 : ¬ t = (-1)) => ?_) (fun (h2 : ¬ ¬ t = (-1)) => ?_)
      · refine ex_st 2 (pc' := 14) (ls' := [(0, xr 143), (1, xi t), (2, xi x), (3, xi y), (4, xi b)]) (st' := [xi t, xr 143]) rfl ?_
        refine ex_call (ct_m_isOfficial2 (c := I 143 0) (by first | omega | (constructor <;> omega) | assumption | ((repeat rw [x_up_far (by omega)]); first | rfl | omega | (constructor <;> omega))) (by (repeat rw [x_up_far (by omega)]); try rfl) (by first | omega | (constructor <;> omega) | assumption | ((repeat rw [x_up_far (by omega)]); first | rfl | omega | (constructor <;> omega)))) (by decide) rfl ⟨rfl, rfl, rfl⟩ ⟨Nat.le_of_ble_eq_true rfl, rfl, rfl⟩ (Nat.le_of_ble_eq_true rfl) rfl ?_
        refine ex_beq rfl (fun h3 => ?_) (fun h3 => ?_)
        · refine ex_st 1 (pc' := 37) (ls' := [(0, xr 143), (1, xi t), (2, xi x), (3, xi y), (4, xi b)]) (st' := [xi (-1)]) rfl ?_
          refine ex_reti rfl rfl ?_
          exact ⟨x_req (by first | rfl | omega), _, _, rfl, hR⟩
        · exfalso; omega
      · exfalso; omega
    · refine ex_st 1 (pc' := 27) (ls' := [(0, xr 0), (1, xi t), (2, xi x), (3, xi y), (4, xi b)]) (st' := [xi x]) rfl ?_
      refine ex_call (ct_G_isThing (by first | omega | (constructor <;> omega) | assumption)) (by decide) rfl ⟨rfl, rfl, rfl⟩ ⟨Nat.le_of_ble_eq_true rfl, rfl, rfl⟩ (Nat.le_of_ble_eq_true rfl) rfl ?_
      refine ex_beq rfl (fun h4 => ?_) (fun h4 => ?_)
      · refine ex_st 1 (pc' := 41) (ls' := [(0, xr 0), (1, xi t), (2, xi x), (3, xi y), (4, xi b)]) (st' := [xi (-1)]) rfl ?_
        refine ex_reti rfl rfl ?_
        refine x_CQ.of (M := xM_m_see) rfl (Nat.le_of_ble_eq_true rfl) ?_
        refine ex_st 2 (pc' := 2) (ls' := [(0, xr 143), (1, xi t), (2, xi x), (3, xi y), (4, xi b)]) (st' := [xi (-1), xi t]) rfl ?_
        refine ex_ic rfl (by first | omega | (constructor <;> omega) | assumption) (by decide) (fun (h5 : ¬ t = (-1)) => ?_) (fun (h5 : ¬ ¬ t = (-1)) => ?_)
        · refine ex_st 2 (pc' := 14) (ls' := [(0, xr 143), (1, xi t), (2, xi x), (3, xi y), (4, xi b)]) (st' := [xi t, xr 143]) rfl ?_
          refine ex_call (ct_m_isOfficial2 (c := I 143 0) (by first | omega | (constructor <;> omega) | assumption | ((repeat rw [x_up_far (by omega)]); first | rfl | omega | (constructor <;> omega))) (by (repeat rw [x_up_far (by omega)]); try rfl) (by first | omega | (constructor <;> omega) | assumption | ((repeat rw [x_up_far (by omega)]); first | rfl | omega | (constructor <;> omega)))) (by decide) rfl ⟨rfl, rfl, rfl⟩ ⟨Nat.le_of_ble_eq_true rfl, rfl, rfl⟩ (Nat.le_of_ble_eq_true rfl) rfl ?_
          refine ex_beq rfl (fun h6 => ?_) (fun h6 => ?_)
          · exfalso; omega
          · refine ex_st 2 (pc' := 22) (ls' := [(0, xr 143), (1, xi t), (2, xi x), (3, xi y), (4, xi b)]) (st' := [xi x, xr 143]) rfl ?_
            refine ex_call (ct_m_isThing (by first | omega | (constructor <;> omega) | assumption)) (by decide) rfl ⟨rfl, rfl, rfl⟩ ⟨Nat.le_of_ble_eq_true rfl, rfl, rfl⟩ (Nat.le_of_ble_eq_true rfl) rfl ?_
            refine ex_beq rfl (fun h7 => ?_) (fun h7 => ?_)
            · refine ex_st 1 (pc' := 37) (ls' := [(0, xr 143), (1, xi t), (2, xi x), (3, xi y), (4, xi b)]) (st' := [xi (-1)]) rfl ?_
              refine ex_reti rfl rfl ?_
              exact ⟨x_req (by first | rfl | omega), _, _, rfl, hR⟩
            · exfalso; omega
        · exfalso; omega
      · refine ex_st 1 (pc' := 34) (ls' := [(0, xr 0), (1, xi t), (2, xi x), (3, xi y), (4, xi b)]) (st' := [xi y]) rfl ?_
        refine ex_call (ct_G_isThing (by first | omega | (constructor <;> omega) | assumption)) (by decide) rfl ⟨rfl, rfl, rfl⟩ ⟨Nat.le_of_ble_eq_true rfl, rfl, rfl⟩ (Nat.le_of_ble_eq_true rfl) rfl ?_
        refine ex_bne rfl (fun h8 => ?_) (fun h8 => ?_)
        · refine ex_st 2 (pc' := 44) (ls' := [(0, xr 0), (1, xi t), (2, xi x), (3, xi y), (4, xi b)]) (st' := [xi y, xi x]) rfl ?_
          refine ex_ic rfl (by first | omega | (constructor <;> omega) | assumption) (by first | omega | (constructor <;> omega) | assumption) (fun (h9 : ¬ x = y) => ?_) (fun (h9 : ¬ ¬ x = y) => ?_)
          · refine ex_st 7 (pc' := 62) (ls' := [(0, xr 0), (1, xi t), (2, xi x), (3, xi y), (4, xi b)]) (st' := [xi b, xi y, xi x, xi t, xr 5]) rfl ?_
            refine ex_if rfl (by first | omega | (constructor <;> omega) | assumption) (fun (h10 : b = 0) => ?_) (fun (h10 : ¬ b = 0) => ?_)
            · refine ex_st 1 (pc' := 70) (ls' := [(0, xr 0), (1, xi t), (2, xi x), (3, xi y), (4, xi b)]) (st' := [xi 0, xi y, xi x, xi t, xr 5]) rfl ?_
              refine ex_inl (M' := xM_Rw_add) (as := [xr 5, xi t, xi x, xi y, xi 0]) (rest := []) (D' := 28) rfl (Nat.le_of_ble_eq_true rfl) (by decide) rfl ⟨rfl, rfl, rfl⟩ ⟨Nat.le_of_ble_eq_true rfl, rfl, rfl⟩ (Nat.le_of_ble_eq_true rfl) rfl ?_
              refine ex_st 2 (pc' := 4) (ls' := [(0, xr 5), (1, xi t), (2, xi x), (3, xi y), (4, xi 0)]) (st' := [xi (I 5 2)]) rfl ?_
              rw [hc1]
              refine ex_st 2 (pc' := 8) (ls' := [(0, xr 5), (1, xi t), (2, xi x), (3, xi y), (4, xi 0)]) (st' := [xi (I 5 0), xi (↑c)]) rfl ?_
              rw [hz4]
              refine ex_ic rfl (by first | omega | (constructor <;> omega) | assumption) (by decide) (fun (h11 : (↑c : Int) < 5) => ?_) (fun (h11 : ¬ (↑c : Int) < 5) => ?_)
              · refine ex_st 4 (pc' := 21) (ls' := [(0, xr 5), (1, xi t), (2, xi x), (3, xi y), (4, xi 0)]) (st' := [xi (I 5 2), xr 6]) rfl ?_
                rw [hc1]
                refine ex_st 3 (pc' := 24) (ls' := [(0, xr 5), (1, xi t), (2, xi x), (3, xi y), (4, xi 0)]) (st' := [xi t, xi ((↑c) * 4), xr 6]) rfl ?_
                refine ex_iast (j := ((c) * 4)) rfl (by decide) (rfl : xSH[6]? = some _) (by omega) (by omega) (by decide) ?_
                refine ex_st 4 (pc' := 33) (ls' := [(0, xr 5), (1, xi t), (2, xi x), (3, xi y), (4, xi 0)]) (st' := [xi ((x_up I 6 ((c) * 4) t) 5 2), xr 6]) rfl ?_
                rw [(x_up_far (by first | decide | omega) : (x_up I 6 ((c) * 4) t) 5 2 = I 5 2)]
                rw [hc1]
                refine ex_st 5 (pc' := 38) (ls' := [(0, xr 5), (1, xi t), (2, xi x), (3, xi y), (4, xi 0)]) (st' := [xi x, xi (((↑c) * 4) + 1), xr 6]) rfl ?_
                refine ex_iast (j := (((c) * 4) + 1)) rfl (by decide) (rfl : xSH[6]? = some _) (by omega) (by omega) (by decide) ?_
                refine ex_st 4 (pc' := 47) (ls' := [(0, xr 5), (1, xi t), (2, xi x), (3, xi y), (4, xi 0)]) (st' := [xi ((x_up (x_up I 6 ((c) * 4) t) 6 (((c) * 4) + 1) x) 5 2), xr 6]) rfl ?_
                rw [(x_up_far (by first | decide | omega) : (x_up (x_up I 6 ((c) * 4) t) 6 (((c) * 4) + 1) x) 5 2 = (x_up I 6 ((c) * 4) t) 5 2)]
                rw [(x_up_far (by first | decide | omega) : (x_up I 6 ((c) * 4) t) 5 2 = I 5 2)]
                rw [hc1]
                refine ex_st 5 (pc' := 52) (ls' := [(0, xr 5), (1, xi t), (2, xi x), (3, xi y), (4, xi 0)]) (st' := [xi y, xi (((↑c) * 4) + 2), xr 6]) rfl ?_
                refine ex_iast (j := (((c) * 4) + 2)) rfl (by decide) (rfl : xSH[6]? = some _) (by omega) (by omega) (by decide) ?_
                refine ex_st 4 (pc' := 61) (ls' := [(0, xr 5), (1, xi t), (2, xi x), (3, xi y), (4, xi 0)]) (st' := [xi ((x_up (x_up (x_up I 6 ((c) * 4) t) 6 (((c) * 4) + 1) x) 6 (((c) * 4) + 2) y) 5 2), xr 6]) rfl ?_
                rw [(x_up_far (by first | decide | omega) : (x_up (x_up (x_up I 6 ((c) * 4) t) 6 (((c) * 4) + 1) x) 6 (((c) * 4) + 2) y) 5 2 = (x_up (x_up I 6 ((c) * 4) t) 6 (((c) * 4) + 1) x) 5 2)]
                rw [(x_up_far (by first | decide | omega) : (x_up (x_up I 6 ((c) * 4) t) 6 (((c) * 4) + 1) x) 5 2 = (x_up I 6 ((c) * 4) t) 5 2)]
                rw [(x_up_far (by first | decide | omega) : (x_up I 6 ((c) * 4) t) 5 2 = I 5 2)]
                rw [hc1]
                refine ex_st 5 (pc' := 67) (ls' := [(0, xr 5), (1, xi t), (2, xi x), (3, xi y), (4, xi 0)]) (st' := [xi 0, xi (((↑c) * 4) + 3), xr 6]) rfl ?_
                refine ex_iast (j := (((c) * 4) + 3)) rfl (by decide) (rfl : xSH[6]? = some _) (by omega) (by omega) (by decide) ?_
                refine ex_st 3 (pc' := 73) (ls' := [(0, xr 5), (1, xi t), (2, xi x), (3, xi y), (4, xi 0)]) (st' := [xi ((x_up (x_up (x_up (x_up I 6 ((c) * 4) t) 6 (((c) * 4) + 1) x) 6 (((c) * 4) + 2) y) 6 (((c) * 4) + 3) 0) 5 2), xr 5]) rfl ?_
                rw [(x_up_far (by first | decide | omega) : (x_up (x_up (x_up (x_up I 6 ((c) * 4) t) 6 (((c) * 4) + 1) x) 6 (((c) * 4) + 2) y) 6 (((c) * 4) + 3) 0) 5 2 = (x_up (x_up (x_up I 6 ((c) * 4) t) 6 (((c) * 4) + 1) x) 6 (((c) * 4) + 2) y) 5 2)]
                rw [(x_up_far (by first | decide | omega) : (x_up (x_up (x_up I 6 ((c) * 4) t) 6 (((c) * 4) + 1) x) 6 (((c) * 4) + 2) y) 5 2 = (x_up (x_up I 6 ((c) * 4) t) 6 (((c) * 4) + 1) x) 5 2)]
                rw [(x_up_far (by first | decide | omega) : (x_up (x_up I 6 ((c) * 4) t) 6 (((c) * 4) + 1) x) 5 2 = (x_up I 6 ((c) * 4) t) 5 2)]
                rw [(x_up_far (by first | decide | omega) : (x_up I 6 ((c) * 4) t) 5 2 = I 5 2)]
                rw [hc1]
                refine ex_st 2 (pc' := 75) (ls' := [(0, xr 5), (1, xi t), (2, xi x), (3, xi y), (4, xi 0)]) (st' := [xi ((↑c) + 1), xr 5]) rfl ?_
                refine ex_pfi rfl (by decide) (rfl : xSH[5]? = some _) (by decide) rfl (by decide) (fun h => by cases h) ?_
                refine ex_st 1 (pc' := 79) (ls' := [(0, xr 5), (1, xi t), (2, xi x), (3, xi y), (4, xi 0)]) (st' := [xi 1]) rfl ?_
                refine ex_retz rfl (Or.inr rfl) rfl ?_
                refine ex_st 1 (pc' := 76) (ls' := [(0, xr 0), (1, xi t), (2, xi x), (3, xi y), (4, xi b)]) (st' := []) rfl ?_
                refine ex_st 4 (pc' := 86) (ls' := [(0, xr 0), (1, xi t), (2, xi x), (3, xi y), (4, xi b)]) (st' := [xi ((x_up (x_up (x_up (x_up (x_up I 6 ((c) * 4) t) 6 (((c) * 4) + 1) x) 6 (((c) * 4) + 2) y) 6 (((c) * 4) + 3) 0) 5 2 ((↑c) + 1)) 5 2)]) rfl ?_
                rw [x_up_at (x_up (x_up (x_up (x_up I 6 ((c) * 4) t) 6 (((c) * 4) + 1) x) 6 (((c) * 4) + 2) y) 6 (((c) * 4) + 3) 0) 5 2 ((↑c) + 1)]
                refine ex_st 1 (pc' := 91) (ls' := [(0, xr 0), (1, xi t), (2, xi x), (3, xi y), (4, xi b)]) (st' := [xi ((↑c) + 1)]) rfl ?_
                refine ex_reti rfl rfl ?_
                refine x_CQ.of (M := xM_m_see) rfl (Nat.le_of_ble_eq_true rfl) ?_
                refine ex_st 2 (pc' := 2) (ls' := [(0, xr 143), (1, xi t), (2, xi x), (3, xi y), (4, xi b)]) (st' := [xi (-1), xi t]) rfl ?_
                refine ex_ic rfl (by first | omega | (constructor <;> omega) | assumption) (by decide) (fun (h12 : ¬ t = (-1)) => ?_) (fun (h12 : ¬ ¬ t = (-1)) => ?_)
                · refine ex_st 2 (pc' := 14) (ls' := [(0, xr 143), (1, xi t), (2, xi x), (3, xi y), (4, xi b)]) (st' := [xi t, xr 143]) rfl ?_
                  refine ex_call (ct_m_isOfficial2 (c := I 143 0) (by first | omega | (constructor <;> omega) | assumption | ((repeat rw [x_up_far (by omega)]); first | rfl | omega | (constructor <;> omega))) (by (repeat rw [x_up_far (by omega)]); try rfl) (by first | omega | (constructor <;> omega) | assumption | ((repeat rw [x_up_far (by omega)]); first | rfl | omega | (constructor <;> omega)))) (by decide) rfl ⟨rfl, rfl, rfl⟩ ⟨Nat.le_of_ble_eq_true rfl, rfl, rfl⟩ (Nat.le_of_ble_eq_true rfl) rfl ?_
                  refine ex_beq rfl (fun h13 => ?_) (fun h13 => ?_)
                  · exfalso; omega
                  · refine ex_st 2 (pc' := 22) (ls' := [(0, xr 143), (1, xi t), (2, xi x), (3, xi y), (4, xi b)]) (st' := [xi x, xr 143]) rfl ?_
                    refine ex_call (ct_m_isThing (by first | omega | (constructor <;> omega) | assumption)) (by decide) rfl ⟨rfl, rfl, rfl⟩ ⟨Nat.le_of_ble_eq_true rfl, rfl, rfl⟩ (Nat.le_of_ble_eq_true rfl) rfl ?_
                    refine ex_beq rfl (fun h14 => ?_) (fun h14 => ?_)
                    · exfalso; omega
                    · refine ex_st 2 (pc' := 30) (ls' := [(0, xr 143), (1, xi t), (2, xi x), (3, xi y), (4, xi b)]) (st' := [xi y, xr 143]) rfl ?_
                      refine ex_call (ct_m_isThing (by first | omega | (constructor <;> omega) | assumption)) (by decide) rfl ⟨rfl, rfl, rfl⟩ ⟨Nat.le_of_ble_eq_true rfl, rfl, rfl⟩ (Nat.le_of_ble_eq_true rfl) rfl ?_
                      refine ex_bne rfl (fun h15 => ?_) (fun h15 => ?_)
                      · refine ex_st 2 (pc' := 40) (ls' := [(0, xr 143), (1, xi t), (2, xi x), (3, xi y), (4, xi b)]) (st' := [xi y, xi x]) rfl ?_
                        refine ex_ic rfl (by first | omega | (constructor <;> omega) | assumption) (by first | omega | (constructor <;> omega) | assumption) (fun (h16 : ¬ x = y) => ?_) (fun (h16 : ¬ ¬ x = y) => ?_)
                        · refine ex_st 2 (pc' := 50) (ls' := [(0, xr 143), (1, xi t), (2, xi x), (3, xi y), (4, xi b)]) (st' := [xi ((x_up (x_up (x_up (x_up (x_up I 6 ((c) * 4) t) 6 (((c) * 4) + 1) x) 6 (((c) * 4) + 2) y) 6 (((c) * 4) + 3) 0) 5 2 ((↑c) + 1)) 143 38)]) rfl ?_
                          rw [(x_up_far (by first | decide | omega) : (x_up (x_up (x_up (x_up (x_up I 6 ((c) * 4) t) 6 (((c) * 4) + 1) x) 6 (((c) * 4) + 2) y) 6 (((c) * 4) + 3) 0) 5 2 ((↑c) + 1)) 143 38 = (x_up (x_up (x_up (x_up I 6 ((c) * 4) t) 6 (((c) * 4) + 1) x) 6 (((c) * 4) + 2) y) 6 (((c) * 4) + 3) 0) 143 38)]
                          rw [(x_up_far (by first | decide | omega) : (x_up (x_up (x_up (x_up I 6 ((c) * 4) t) 6 (((c) * 4) + 1) x) 6 (((c) * 4) + 2) y) 6 (((c) * 4) + 3) 0) 143 38 = (x_up (x_up (x_up I 6 ((c) * 4) t) 6 (((c) * 4) + 1) x) 6 (((c) * 4) + 2) y) 143 38)]
                          rw [(x_up_far (by first | decide | omega) : (x_up (x_up (x_up I 6 ((c) * 4) t) 6 (((c) * 4) + 1) x) 6 (((c) * 4) + 2) y) 143 38 = (x_up (x_up I 6 ((c) * 4) t) 6 (((c) * 4) + 1) x) 143 38)]
                          rw [(x_up_far (by first | decide | omega) : (x_up (x_up I 6 ((c) * 4) t) 6 (((c) * 4) + 1) x) 143 38 = (x_up I 6 ((c) * 4) t) 143 38)]
                          rw [(x_up_far (by first | decide | omega) : (x_up I 6 ((c) * 4) t) 143 38 = I 143 38)]
                          rw [hc0]
                          refine ex_st 1 (pc' := 51) (ls' := [(0, xr 143), (1, xi t), (2, xi x), (3, xi y), (4, xi b)]) (st' := [xi 5, xi (↑c)]) rfl ?_
                          refine ex_ic rfl (by first | omega | (constructor <;> omega) | assumption) (by decide) (fun (h17 : ¬ (↑c : Int) = 5) => ?_) (fun (h17 : ¬ ¬ (↑c : Int) = 5) => ?_)
                          · refine ex_st 4 (pc' := 65) (ls' := [(0, xr 143), (1, xi t), (2, xi x), (3, xi y), (4, xi b)]) (st' := [xi ((x_up (x_up (x_up (x_up (x_up I 6 ((c) * 4) t) 6 (((c) * 4) + 1) x) 6 (((c) * 4) + 2) y) 6 (((c) * 4) + 3) 0) 5 2 ((↑c) + 1)) 143 38), xr 165]) rfl ?_
                            rw [(x_up_far (by first | decide | omega) : (x_up (x_up (x_up (x_up (x_up I 6 ((c) * 4) t) 6 (((c) * 4) + 1) x) 6 (((c) * 4) + 2) y) 6 (((c) * 4) + 3) 0) 5 2 ((↑c) + 1)) 143 38 = (x_up (x_up (x_up (x_up I 6 ((c) * 4) t) 6 (((c) * 4) + 1) x) 6 (((c) * 4) + 2) y) 6 (((c) * 4) + 3) 0) 143 38)]
                            rw [(x_up_far (by first | decide | omega) : (x_up (x_up (x_up (x_up I 6 ((c) * 4) t) 6 (((c) * 4) + 1) x) 6 (((c) * 4) + 2) y) 6 (((c) * 4) + 3) 0) 143 38 = (x_up (x_up (x_up I 6 ((c) * 4) t) 6 (((c) * 4) + 1) x) 6 (((c) * 4) + 2) y) 143 38)]
                            rw [(x_up_far (by first | decide | omega) : (x_up (x_up (x_up I 6 ((c) * 4) t) 6 (((c) * 4) + 1) x) 6 (((c) * 4) + 2) y) 143 38 = (x_up (x_up I 6 ((c) * 4) t) 6 (((c) * 4) + 1) x) 143 38)]
                            rw [(x_up_far (by first | decide | omega) : (x_up (x_up I 6 ((c) * 4) t) 6 (((c) * 4) + 1) x) 143 38 = (x_up I 6 ((c) * 4) t) 143 38)]
                            rw [(x_up_far (by first | decide | omega) : (x_up I 6 ((c) * 4) t) 143 38 = I 143 38)]
                            rw [hc0]
                            refine ex_st 1 (pc' := 66) (ls' := [(0, xr 143), (1, xi t), (2, xi x), (3, xi y), (4, xi b)]) (st' := [xi t, xi (↑c), xr 165]) rfl ?_
                            refine ex_iast (j := c) rfl (by decide) (rfl : xSH[165]? = some _) (by omega) (by omega) (by decide) ?_
                            refine ex_st 4 (pc' := 75) (ls' := [(0, xr 143), (1, xi t), (2, xi x), (3, xi y), (4, xi b)]) (st' := [xi ((x_up (x_up (x_up (x_up (x_up (x_up I 6 ((c) * 4) t) 6 (((c) * 4) + 1) x) 6 (((c) * 4) + 2) y) 6 (((c) * 4) + 3) 0) 5 2 ((↑c) + 1)) 165 c t) 143 38), xr 166]) rfl ?_
                            rw [(x_up_far (by first | decide | omega) : (x_up (x_up (x_up (x_up (x_up (x_up I 6 ((c) * 4) t) 6 (((c) * 4) + 1) x) 6 (((c) * 4) + 2) y) 6 (((c) * 4) + 3) 0) 5 2 ((↑c) + 1)) 165 c t) 143 38 = (x_up (x_up (x_up (x_up (x_up I 6 ((c) * 4) t) 6 (((c) * 4) + 1) x) 6 (((c) * 4) + 2) y) 6 (((c) * 4) + 3) 0) 5 2 ((↑c) + 1)) 143 38)]
                            rw [(x_up_far (by first | decide | omega) : (x_up (x_up (x_up (x_up (x_up I 6 ((c) * 4) t) 6 (((c) * 4) + 1) x) 6 (((c) * 4) + 2) y) 6 (((c) * 4) + 3) 0) 5 2 ((↑c) + 1)) 143 38 = (x_up (x_up (x_up (x_up I 6 ((c) * 4) t) 6 (((c) * 4) + 1) x) 6 (((c) * 4) + 2) y) 6 (((c) * 4) + 3) 0) 143 38)]
                            rw [(x_up_far (by first | decide | omega) : (x_up (x_up (x_up (x_up I 6 ((c) * 4) t) 6 (((c) * 4) + 1) x) 6 (((c) * 4) + 2) y) 6 (((c) * 4) + 3) 0) 143 38 = (x_up (x_up (x_up I 6 ((c) * 4) t) 6 (((c) * 4) + 1) x) 6 (((c) * 4) + 2) y) 143 38)]
                            rw [(x_up_far (by first | decide | omega) : (x_up (x_up (x_up I 6 ((c) * 4) t) 6 (((c) * 4) + 1) x) 6 (((c) * 4) + 2) y) 143 38 = (x_up (x_up I 6 ((c) * 4) t) 6 (((c) * 4) + 1) x) 143 38)]
                            rw [(x_up_far (by first | decide | omega) : (x_up (x_up I 6 ((c) * 4) t) 6 (((c) * 4) + 1) x) 143 38 = (x_up I 6 ((c) * 4) t) 143 38)]
                            rw [(x_up_far (by first | decide | omega) : (x_up I 6 ((c) * 4) t) 143 38 = I 143 38)]
                            rw [hc0]
                            refine ex_st 1 (pc' := 76) (ls' := [(0, xr 143), (1, xi t), (2, xi x), (3, xi y), (4, xi b)]) (st' := [xi x, xi (↑c), xr 166]) rfl ?_
                            refine ex_iast (j := c) rfl (by decide) (rfl : xSH[166]? = some _) (by omega) (by omega) (by decide) ?_
                            refine ex_st 4 (pc' := 85) (ls' := [(0, xr 143), (1, xi t), (2, xi x), (3, xi y), (4, xi b)]) (st' := [xi ((x_up (x_up (x_up (x_up (x_up (x_up (x_up I 6 ((c) * 4) t) 6 (((c) * 4) + 1) x) 6 (((c) * 4) + 2) y) 6 (((c) * 4) + 3) 0) 5 2 ((↑c) + 1)) 165 c t) 166 c x) 143 38), xr 167]) rfl ?_
                            rw [(x_up_far (by first | decide | omega) : (x_up (x_up (x_up (x_up (x_up (x_up (x_up I 6 ((c) * 4) t) 6 (((c) * 4) + 1) x) 6 (((c) * 4) + 2) y) 6 (((c) * 4) + 3) 0) 5 2 ((↑c) + 1)) 165 c t) 166 c x) 143 38 = (x_up (x_up (x_up (x_up (x_up (x_up I 6 ((c) * 4) t) 6 (((c) * 4) + 1) x) 6 (((c) * 4) + 2) y) 6 (((c) * 4) + 3) 0) 5 2 ((↑c) + 1)) 165 c t) 143 38)]
                            rw [(x_up_far (by first | decide | omega) : (x_up (x_up (x_up (x_up (x_up (x_up I 6 ((c) * 4) t) 6 (((c) * 4) + 1) x) 6 (((c) * 4) + 2) y) 6 (((c) * 4) + 3) 0) 5 2 ((↑c) + 1)) 165 c t) 143 38 = (x_up (x_up (x_up (x_up (x_up I 6 ((c) * 4) t) 6 (((c) * 4) + 1) x) 6 (((c) * 4) + 2) y) 6 (((c) * 4) + 3) 0) 5 2 ((↑c) + 1)) 143 38)]
                            rw [(x_up_far (by first | decide | omega) : (x_up (x_up (x_up (x_up (x_up I 6 ((c) * 4) t) 6 (((c) * 4) + 1) x) 6 (((c) * 4) + 2) y) 6 (((c) * 4) + 3) 0) 5 2 ((↑c) + 1)) 143 38 = (x_up (x_up (x_up (x_up I 6 ((c) * 4) t) 6 (((c) * 4) + 1) x) 6 (((c) * 4) + 2) y) 6 (((c) * 4) + 3) 0) 143 38)]
                            rw [(x_up_far (by first | decide | omega) : (x_up (x_up (x_up (x_up I 6 ((c) * 4) t) 6 (((c) * 4) + 1) x) 6 (((c) * 4) + 2) y) 6 (((c) * 4) + 3) 0) 143 38 = (x_up (x_up (x_up I 6 ((c) * 4) t) 6 (((c) * 4) + 1) x) 6 (((c) * 4) + 2) y) 143 38)]
                            rw [(x_up_far (by first | decide | omega) : (x_up (x_up (x_up I 6 ((c) * 4) t) 6 (((c) * 4) + 1) x) 6 (((c) * 4) + 2) y) 143 38 = (x_up (x_up I 6 ((c) * 4) t) 6 (((c) * 4) + 1) x) 143 38)]
                            rw [(x_up_far (by first | decide | omega) : (x_up (x_up I 6 ((c) * 4) t) 6 (((c) * 4) + 1) x) 143 38 = (x_up I 6 ((c) * 4) t) 143 38)]
                            rw [(x_up_far (by first | decide | omega) : (x_up I 6 ((c) * 4) t) 143 38 = I 143 38)]
                            rw [hc0]
                            refine ex_st 1 (pc' := 86) (ls' := [(0, xr 143), (1, xi t), (2, xi x), (3, xi y), (4, xi b)]) (st' := [xi y, xi (↑c), xr 167]) rfl ?_
                            refine ex_iast (j := c) rfl (by decide) (rfl : xSH[167]? = some _) (by omega) (by omega) (by decide) ?_
                            refine ex_st 4 (pc' := 95) (ls' := [(0, xr 143), (1, xi t), (2, xi x), (3, xi y), (4, xi b)]) (st' := [xi ((x_up (x_up (x_up (x_up (x_up (x_up (x_up (x_up I 6 ((c) * 4) t) 6 (((c) * 4) + 1) x) 6 (((c) * 4) + 2) y) 6 (((c) * 4) + 3) 0) 5 2 ((↑c) + 1)) 165 c t) 166 c x) 167 c y) 143 38), xr 168]) rfl ?_
                            rw [(x_up_far (by first | decide | omega) : (x_up (x_up (x_up (x_up (x_up (x_up (x_up (x_up I 6 ((c) * 4) t) 6 (((c) * 4) + 1) x) 6 (((c) * 4) + 2) y) 6 (((c) * 4) + 3) 0) 5 2 ((↑c) + 1)) 165 c t) 166 c x) 167 c y) 143 38 = (x_up (x_up (x_up (x_up (x_up (x_up (x_up I 6 ((c) * 4) t) 6 (((c) * 4) + 1) x) 6 (((c) * 4) + 2) y) 6 (((c) * 4) + 3) 0) 5 2 ((↑c) + 1)) 165 c t) 166 c x) 143 38)]
                            rw [(x_up_far (by first | decide | omega) : (x_up (x_up (x_up (x_up (x_up (x_up (x_up I 6 ((c) * 4) t) 6 (((c) * 4) + 1) x) 6 (((c) * 4) + 2) y) 6 (((c) * 4) + 3) 0) 5 2 ((↑c) + 1)) 165 c t) 166 c x) 143 38 = (x_up (x_up (x_up (x_up (x_up (x_up I 6 ((c) * 4) t) 6 (((c) * 4) + 1) x) 6 (((c) * 4) + 2) y) 6 (((c) * 4) + 3) 0) 5 2 ((↑c) + 1)) 165 c t) 143 38)]
                            rw [(x_up_far (by first | decide | omega) : (x_up (x_up (x_up (x_up (x_up (x_up I 6 ((c) * 4) t) 6 (((c) * 4) + 1) x) 6 (((c) * 4) + 2) y) 6 (((c) * 4) + 3) 0) 5 2 ((↑c) + 1)) 165 c t) 143 38 = (x_up (x_up (x_up (x_up (x_up I 6 ((c) * 4) t) 6 (((c) * 4) + 1) x) 6 (((c) * 4) + 2) y) 6 (((c) * 4) + 3) 0) 5 2 ((↑c) + 1)) 143 38)]
                            rw [(x_up_far (by first | decide | omega) : (x_up (x_up (x_up (x_up (x_up I 6 ((c) * 4) t) 6 (((c) * 4) + 1) x) 6 (((c) * 4) + 2) y) 6 (((c) * 4) + 3) 0) 5 2 ((↑c) + 1)) 143 38 = (x_up (x_up (x_up (x_up I 6 ((c) * 4) t) 6 (((c) * 4) + 1) x) 6 (((c) * 4) + 2) y) 6 (((c) * 4) + 3) 0) 143 38)]
                            rw [(x_up_far (by first | decide | omega) : (x_up (x_up (x_up (x_up I 6 ((c) * 4) t) 6 (((c) * 4) + 1) x) 6 (((c) * 4) + 2) y) 6 (((c) * 4) + 3) 0) 143 38 = (x_up (x_up (x_up I 6 ((c) * 4) t) 6 (((c) * 4) + 1) x) 6 (((c) * 4) + 2) y) 143 38)]
                            rw [(x_up_far (by first | decide | omega) : (x_up (x_up (x_up I 6 ((c) * 4) t) 6 (((c) * 4) + 1) x) 6 (((c) * 4) + 2) y) 143 38 = (x_up (x_up I 6 ((c) * 4) t) 6 (((c) * 4) + 1) x) 143 38)]
                            rw [(x_up_far (by first | decide | omega) : (x_up (x_up I 6 ((c) * 4) t) 6 (((c) * 4) + 1) x) 143 38 = (x_up I 6 ((c) * 4) t) 143 38)]
                            rw [(x_up_far (by first | decide | omega) : (x_up I 6 ((c) * 4) t) 143 38 = I 143 38)]
                            rw [hc0]
                            refine ex_st 1 (pc' := 97) (ls' := [(0, xr 143), (1, xi t), (2, xi x), (3, xi y), (4, xi b)]) (st' := [xi b, xi (↑c), xr 168]) rfl ?_
                            refine ex_bast (j := c) rfl (by decide) (rfl : xSH[168]? = some _) (by omega) (by omega) (by decide) (by right; exact ⟨rfl, hb⟩) ?_
                            refine ex_st 3 (pc' := 103) (ls' := [(0, xr 143), (1, xi t), (2, xi x), (3, xi y), (4, xi b)]) (st' := [xi ((x_up (x_up (x_up (x_up (x_up (x_up (x_up (x_up (x_up I 6 ((c) * 4) t) 6 (((c) * 4) + 1) x) 6 (((c) * 4) + 2) y) 6 (((c) * 4) + 3) 0) 5 2 ((↑c) + 1)) 165 c t) 166 c x) 167 c y) 168 c b) 143 38), xr 143]) rfl ?_
                            rw [(x_up_far (by first | decide | omega) : (x_up (x_up (x_up (x_up (x_up (x_up (x_up (x_up (x_up I 6 ((c) * 4) t) 6 (((c) * 4) + 1) x) 6 (((c) * 4) + 2) y) 6 (((c) * 4) + 3) 0) 5 2 ((↑c) + 1)) 165 c t) 166 c x) 167 c y) 168 c b) 143 38 = (x_up (x_up (x_up (x_up (x_up (x_up (x_up (x_up I 6 ((c) * 4) t) 6 (((c) * 4) + 1) x) 6 (((c) * 4) + 2) y) 6 (((c) * 4) + 3) 0) 5 2 ((↑c) + 1)) 165 c t) 166 c x) 167 c y) 143 38)]
                            rw [(x_up_far (by first | decide | omega) : (x_up (x_up (x_up (x_up (x_up (x_up (x_up (x_up I 6 ((c) * 4) t) 6 (((c) * 4) + 1) x) 6 (((c) * 4) + 2) y) 6 (((c) * 4) + 3) 0) 5 2 ((↑c) + 1)) 165 c t) 166 c x) 167 c y) 143 38 = (x_up (x_up (x_up (x_up (x_up (x_up (x_up I 6 ((c) * 4) t) 6 (((c) * 4) + 1) x) 6 (((c) * 4) + 2) y) 6 (((c) * 4) + 3) 0) 5 2 ((↑c) + 1)) 165 c t) 166 c x) 143 38)]
                            rw [(x_up_far (by first | decide | omega) : (x_up (x_up (x_up (x_up (x_up (x_up (x_up I 6 ((c) * 4) t) 6 (((c) * 4) + 1) x) 6 (((c) * 4) + 2) y) 6 (((c) * 4) + 3) 0) 5 2 ((↑c) + 1)) 165 c t) 166 c x) 143 38 = (x_up (x_up (x_up (x_up (x_up (x_up I 6 ((c) * 4) t) 6 (((c) * 4) + 1) x) 6 (((c) * 4) + 2) y) 6 (((c) * 4) + 3) 0) 5 2 ((↑c) + 1)) 165 c t) 143 38)]
                            rw [(x_up_far (by first | decide | omega) : (x_up (x_up (x_up (x_up (x_up (x_up I 6 ((c) * 4) t) 6 (((c) * 4) + 1) x) 6 (((c) * 4) + 2) y) 6 (((c) * 4) + 3) 0) 5 2 ((↑c) + 1)) 165 c t) 143 38 = (x_up (x_up (x_up (x_up (x_up I 6 ((c) * 4) t) 6 (((c) * 4) + 1) x) 6 (((c) * 4) + 2) y) 6 (((c) * 4) + 3) 0) 5 2 ((↑c) + 1)) 143 38)]
                            rw [(x_up_far (by first | decide | omega) : (x_up (x_up (x_up (x_up (x_up I 6 ((c) * 4) t) 6 (((c) * 4) + 1) x) 6 (((c) * 4) + 2) y) 6 (((c) * 4) + 3) 0) 5 2 ((↑c) + 1)) 143 38 = (x_up (x_up (x_up (x_up I 6 ((c) * 4) t) 6 (((c) * 4) + 1) x) 6 (((c) * 4) + 2) y) 6 (((c) * 4) + 3) 0) 143 38)]
                            rw [(x_up_far (by first | decide | omega) : (x_up (x_up (x_up (x_up I 6 ((c) * 4) t) 6 (((c) * 4) + 1) x) 6 (((c) * 4) + 2) y) 6 (((c) * 4) + 3) 0) 143 38 = (x_up (x_up (x_up I 6 ((c) * 4) t) 6 (((c) * 4) + 1) x) 6 (((c) * 4) + 2) y) 143 38)]
                            rw [(x_up_far (by first | decide | omega) : (x_up (x_up (x_up I 6 ((c) * 4) t) 6 (((c) * 4) + 1) x) 6 (((c) * 4) + 2) y) 143 38 = (x_up (x_up I 6 ((c) * 4) t) 6 (((c) * 4) + 1) x) 143 38)]
                            rw [(x_up_far (by first | decide | omega) : (x_up (x_up I 6 ((c) * 4) t) 6 (((c) * 4) + 1) x) 143 38 = (x_up I 6 ((c) * 4) t) 143 38)]
                            rw [(x_up_far (by first | decide | omega) : (x_up I 6 ((c) * 4) t) 143 38 = I 143 38)]
                            rw [hc0]
                            refine ex_st 2 (pc' := 105) (ls' := [(0, xr 143), (1, xi t), (2, xi x), (3, xi y), (4, xi b)]) (st' := [xi ((↑c) + 1), xr 143]) rfl ?_
                            refine ex_pfi rfl (by decide) (rfl : xSH[143]? = some _) (by decide) rfl (by decide) (fun h => by cases h) ?_
                            refine ex_st 2 (pc' := 112) (ls' := [(0, xr 143), (1, xi t), (2, xi x), (3, xi y), (4, xi b)]) (st' := [xi ((x_up (x_up (x_up (x_up (x_up (x_up (x_up (x_up (x_up (x_up I 6 ((c) * 4) t) 6 (((c) * 4) + 1) x) 6 (((c) * 4) + 2) y) 6 (((c) * 4) + 3) 0) 5 2 ((↑c) + 1)) 165 c t) 166 c x) 167 c y) 168 c b) 143 38 ((↑c) + 1)) 143 38)]) rfl ?_
                            rw [x_up_at (x_up (x_up (x_up (x_up (x_up (x_up (x_up (x_up (x_up I 6 ((c) * 4) t) 6 (((c) * 4) + 1) x) 6 (((c) * 4) + 2) y) 6 (((c) * 4) + 3) 0) 5 2 ((↑c) + 1)) 165 c t) 166 c x) 167 c y) 168 c b) 143 38 ((↑c) + 1)]
                            refine ex_reti rfl rfl ?_
                            refine ⟨x_req (by first | rfl | omega), ?_⟩
                            refine ⟨_, _, rfl, ?_⟩
                            generalize hM : (x_up (x_up (x_up (x_up (x_up (x_up (x_up (x_up (x_up (x_up I 6 ((c) * 4) t) 6 (((c) * 4) + 1) x) 6 (((c) * 4) + 2) y) 6 (((c) * 4) + 3) 0) 5 2 ((↑c) + 1)) 165 c t) 166 c x) 167 c y) 168 c b) 143 38 ((↑c) + 1)) = I2
                            have hF : ∀ k j, ¬ ((k = 143 ∧ j = 38) ∨ (k = 168 ∧ j = c) ∨ (k = 167 ∧ j = c) ∨ (k = 166 ∧ j = c) ∨ (k = 165 ∧ j = c) ∨ (k = 5 ∧ j = 2) ∨ (k = 6 ∧ j = ((c) * 4) + 3) ∨ (k = 6 ∧ j = ((c) * 4) + 2) ∨ (k = 6 ∧ j = ((c) * 4) + 1) ∨ (k = 6 ∧ j = (c) * 4)) → I2 k j = I k j := by intro k j hk; rw [← hM]; (repeat rw [x_up_far (by omega)])
                            have hw0 : I2 143 38 = ((↑c) + 1) := by rw [← hM]; (repeat (first | rw [x_up_far (by omega)] | rw [x_up_at2 (by omega) (by omega)]))
                            have hw1 : I2 168 c = b := by rw [← hM]; (repeat (first | rw [x_up_far (by omega)] | rw [x_up_at2 (by omega) (by omega)]))
                            have hw2 : I2 167 c = y := by rw [← hM]; (repeat (first | rw [x_up_far (by omega)] | rw [x_up_at2 (by omega) (by omega)]))
                            have hw3 : I2 166 c = x := by rw [← hM]; (repeat (first | rw [x_up_far (by omega)] | rw [x_up_at2 (by omega) (by omega)]))
                            have hw4 : I2 165 c = t := by rw [← hM]; (repeat (first | rw [x_up_far (by omega)] | rw [x_up_at2 (by omega) (by omega)]))
                            have hw5 : I2 5 2 = ((↑c) + 1) := by rw [← hM]; (repeat (first | rw [x_up_far (by omega)] | rw [x_up_at2 (by omega) (by omega)]))
                            have hw6 : I2 6 (((c) * 4) + 3) = 0 := by rw [← hM]; (repeat (first | rw [x_up_far (by omega)] | rw [x_up_at2 (by omega) (by omega)]))
                            have hw7 : I2 6 (((c) * 4) + 2) = y := by rw [← hM]; (repeat (first | rw [x_up_far (by omega)] | rw [x_up_at2 (by omega) (by omega)]))
                            have hw8 : I2 6 (((c) * 4) + 1) = x := by rw [← hM]; (repeat (first | rw [x_up_far (by omega)] | rw [x_up_at2 (by omega) (by omega)]))
                            have hw9 : I2 6 ((c) * 4) = t := by rw [← hM]; (repeat (first | rw [x_up_far (by omega)] | rw [x_up_at2 (by omega) (by omega)]))
                            clear hM
                            have hI2 : RIw I2 := by
                              obtain ⟨gs, go, ga, gb, gr, gd, gg, ge, gp, gk⟩ := id hI
                              exact ⟨gs.fr ⟨by (repeat rw [hF _ _ (by omega)]); try rfl, by (repeat rw [hF _ _ (by omega)]); try rfl, by (repeat rw [hF _ _ (by omega)]); try rfl, by (repeat rw [hF _ _ (by omega)]); try rfl, by (repeat rw [hF _ _ (by omega)]); try rfl, by (repeat rw [hF _ _ (by omega)]); try rfl, by (repeat rw [hF _ _ (by omega)]); try rfl, by (repeat rw [hF _ _ (by omega)]); try rfl, by (repeat rw [hF _ _ (by omega)]); try rfl⟩, go.fr (by intros; (repeat rw [hF _ _ (by omega)]); try rfl) (by intros; (repeat rw [hF _ _ (by omega)]); try rfl), ga.fr (by intros; (repeat rw [hF _ _ (by omega)]); try rfl) (by (repeat rw [hF _ _ (by omega)]); try rfl), gb.fr (by intros; (repeat rw [hF _ _ (by omega)]); try rfl) (by intros; (repeat rw [hF _ _ (by omega)]); try rfl), gr.fr (by intros; (repeat rw [hF _ _ (by omega)]); try rfl) (by intros; (repeat rw [hF _ _ (by omega)]); try rfl), gd.fr (by intros; (repeat rw [hF _ _ (by omega)]); try rfl) (by intros; (repeat rw [hF _ _ (by omega)]); try rfl) (by (repeat rw [hF _ _ (by omega)]); try rfl), gg.fr ⟨by (repeat rw [hF _ _ (by omega)]); try rfl, by (repeat rw [hF _ _ (by omega)]); try rfl⟩ (by intros; (repeat rw [hF _ _ (by omega)]); try rfl) (by intros; (repeat rw [hF _ _ (by omega)]); try rfl), ge.fr ⟨by (repeat rw [hF _ _ (by omega)]); try rfl, by (repeat rw [hF _ _ (by omega)]); try rfl, by (repeat rw [hF _ _ (by omega)]); try rfl⟩ (by intros; (repeat rw [hF _ _ (by omega)]); try rfl) (by intros; (repeat rw [hF _ _ (by omega)]); try rfl), gp.fr ⟨by (repeat rw [hF _ _ (by omega)]); try rfl, by (repeat rw [hF _ _ (by omega)]); try rfl, by (repeat rw [hF _ _ (by omega)]); try rfl⟩ (by intros; (repeat rw [hF _ _ (by omega)]); try rfl) (by intros; (repeat rw [hF _ _ (by omega)]); try rfl), gk.fr ⟨by (repeat rw [hF _ _ (by omega)]); try rfl, by (repeat rw [hF _ _ (by omega)]); try rfl, by (repeat rw [hF _ _ (by omega)]); try rfl⟩ (by intros; (repeat rw [hF _ _ (by omega)]); try rfl) (by intros; (repeat rw [hF _ _ (by omega)]); try rfl)⟩
                            refine ⟨⟨hNs.fr ⟨by (repeat rw [hF _ _ (by omega)]); try rfl, by (repeat rw [hF _ _ (by omega)]); try rfl, by (repeat rw [hF _ _ (by omega)]); try rfl, by (repeat rw [hF _ _ (by omega)]); try rfl, by (repeat rw [hF _ _ (by omega)]); try rfl, by (repeat rw [hF _ _ (by omega)]); try rfl, by (repeat rw [hF _ _ (by omega)]); try rfl, by (repeat rw [hF _ _ (by omega)]); try rfl, by (repeat rw [hF _ _ (by omega)]); try rfl⟩, hNo.fr (by intros; (repeat rw [hF _ _ (by omega)]); try rfl) (by intros; (repeat rw [hF _ _ (by omega)]); try rfl), hNa.fr (by intros; (repeat rw [hF _ _ (by omega)]); try rfl) (by (repeat rw [hF _ _ (by omega)]); try rfl), hNb.fr (by intros; (repeat rw [hF _ _ (by omega)]); try rfl) (by intros; (repeat rw [hF _ _ (by omega)]); try rfl), hNr.fr (by intros; (repeat rw [hF _ _ (by omega)]); try rfl) (by intros; (repeat rw [hF _ _ (by omega)]); try rfl), hNd.fr (by intros; (repeat rw [hF _ _ (by omega)]); try rfl) (by intros; (repeat rw [hF _ _ (by omega)]); try rfl) (by (repeat rw [hF _ _ (by omega)]); try rfl), hNg.fr ⟨by (repeat rw [hF _ _ (by omega)]); try rfl, by (repeat rw [hF _ _ (by omega)]); try rfl⟩ (by intros; (repeat rw [hF _ _ (by omega)]); try rfl) (by intros; (repeat rw [hF _ _ (by omega)]); try rfl), ?_, hNp.fr ⟨by (repeat rw [hF _ _ (by omega)]); try rfl, by (repeat rw [hF _ _ (by omega)]); try rfl, by (repeat rw [hF _ _ (by omega)]); try rfl⟩ (by intros; (repeat rw [hF _ _ (by omega)]); try rfl) (by intros; (repeat rw [hF _ _ (by omega)]); try rfl), hNk.fr ⟨by (repeat rw [hF _ _ (by omega)]); try rfl, by (repeat rw [hF _ _ (by omega)]); try rfl, by (repeat rw [hF _ _ (by omega)]); try rfl⟩ (by intros; (repeat rw [hF _ _ (by omega)]); try rfl) (by intros; (repeat rw [hF _ _ (by omega)]); try rfl)⟩, hI2, hT.fr ⟨by (repeat rw [hF _ _ (by omega)]); try rfl, by (repeat rw [hF _ _ (by omega)]); try rfl⟩ (by intros; (repeat rw [hF _ _ (by omega)]); try rfl) (by intros; (repeat rw [hF _ _ (by omega)]); try rfl) (by intros; (repeat rw [hF _ _ (by omega)]); try rfl), hX.fr ⟨by (repeat rw [hF _ _ (by omega)]); try rfl, by (repeat rw [hF _ _ (by omega)]); try rfl⟩ (by intros; (repeat rw [hF _ _ (by omega)]); try rfl), hC.fr ⟨by (repeat rw [hF _ _ (by omega)]); try rfl, by (repeat rw [hF _ _ (by omega)]); try rfl⟩ (by intros; (repeat rw [hF _ _ (by omega)]); try rfl), ?_, hQ.fr (by intros; (repeat rw [hF _ _ (by omega)]); try rfl) (by intros; (repeat rw [hF _ _ (by omega)]); try rfl) (by intros; (repeat rw [hF _ _ (by omega)]); try rfl) (by intros; (repeat rw [hF _ _ (by omega)]); try rfl)⟩
                            · refine ⟨by (repeat (first | rw [hw0] | rw [hw1] | rw [hw2] | rw [hw3] | rw [hw4] | rw [hw5] | rw [hw6] | rw [hw7] | rw [hw8] | rw [hw9] | rw [hF _ _ (by omega)])); try omega, by (repeat (first | rw [hw0] | rw [hw1] | rw [hw2] | rw [hw3] | rw [hw4] | rw [hw5] | rw [hw6] | rw [hw7] | rw [hw8] | rw [hw9] | rw [hF _ _ (by omega)])); omega, by (repeat (first | rw [hw0] | rw [hw1] | rw [hw2] | rw [hw3] | rw [hw4] | rw [hw5] | rw [hw6] | rw [hw7] | rw [hw8] | rw [hw9] | rw [hF _ _ (by omega)])); omega, by (repeat (first | rw [hw0] | rw [hw1] | rw [hw2] | rw [hw3] | rw [hw4] | rw [hw5] | rw [hw6] | rw [hw7] | rw [hw8] | rw [hw9] | rw [hF _ _ (by omega)])); try exact hz4, fun x hx => ?_⟩
                              rw [hw0] at hx
                              by_cases hxc : x = c
                              · subst hxc; (repeat (first | rw [hw0] | rw [hw1] | rw [hw2] | rw [hw3] | rw [hw4] | rw [hw5] | rw [hw6] | rw [hw7] | rw [hw8] | rw [hw9] | rw [hF _ _ (by omega)])); omega
                              · have h := hz5 x (by omega)
                                (repeat (first | rw [hw0] | rw [hw1] | rw [hw2] | rw [hw3] | rw [hw4] | rw [hw5] | rw [hw6] | rw [hw7] | rw [hw8] | rw [hw9] | rw [hF _ _ (by omega)]))
                                exact h
                            · obtain ⟨k1, k2, k3, k4, k5⟩ := hH
                              refine ⟨by (repeat (first | rw [hw0] | rw [hw1] | rw [hw2] | rw [hw3] | rw [hw4] | rw [hw5] | rw [hw6] | rw [hw7] | rw [hw8] | rw [hw9] | rw [hF _ _ (by omega)])); exact k1, by (repeat (first | rw [hw0] | rw [hw1] | rw [hw2] | rw [hw3] | rw [hw4] | rw [hw5] | rw [hw6] | rw [hw7] | rw [hw8] | rw [hw9] | rw [hF _ _ (by omega)])); exact k2, by (repeat (first | rw [hw0] | rw [hw1] | rw [hw2] | rw [hw3] | rw [hw4] | rw [hw5] | rw [hw6] | rw [hw7] | rw [hw8] | rw [hw9] | rw [hF _ _ (by omega)])); exact k3, fun x hx => by (repeat (first | rw [hw0] | rw [hw1] | rw [hw2] | rw [hw3] | rw [hw4] | rw [hw5] | rw [hw6] | rw [hw7] | rw [hw8] | rw [hw9] | rw [hF _ _ (by omega)])); exact k4 x hx, fun x hx => ?_⟩
                              by_cases hxc : x = c
                              · subst hxc; (repeat (first | rw [hw0] | rw [hw1] | rw [hw2] | rw [hw3] | rw [hw4] | rw [hw5] | rw [hw6] | rw [hw7] | rw [hw8] | rw [hw9] | rw [hF _ _ (by omega)])); exact ⟨hb, (k5 x hx).2⟩
                              · (repeat (first | rw [hw0] | rw [hw1] | rw [hw2] | rw [hw3] | rw [hw4] | rw [hw5] | rw [hw6] | rw [hw7] | rw [hw8] | rw [hw9] | rw [hF _ _ (by omega)])); exact k5 x hx
                          · exfalso; omega
                        · exfalso; omega
                      · exfalso; omega
                · exfalso; omega
              · refine ex_st 1 (pc' := 12) (ls' := [(0, xr 5), (1, xi t), (2, xi x), (3, xi y), (4, xi 0)]) (st' := [xi 0]) rfl ?_
                refine ex_retz rfl (Or.inl rfl) rfl ?_
                refine ex_st 1 (pc' := 89) (ls' := [(0, xr 0), (1, xi t), (2, xi x), (3, xi y), (4, xi b)]) (st' := []) rfl ?_
                refine ex_st 1 (pc' := 91) (ls' := [(0, xr 0), (1, xi t), (2, xi x), (3, xi y), (4, xi b)]) (st' := [xi (-4)]) rfl ?_
                refine ex_reti rfl rfl ?_
                refine x_CQ.of (M := xM_m_see) rfl (Nat.le_of_ble_eq_true rfl) ?_
                refine ex_st 2 (pc' := 2) (ls' := [(0, xr 143), (1, xi t), (2, xi x), (3, xi y), (4, xi b)]) (st' := [xi (-1), xi t]) rfl ?_
                refine ex_ic rfl (by first | omega | (constructor <;> omega) | assumption) (by decide) (fun (h18 : ¬ t = (-1)) => ?_) (fun (h18 : ¬ ¬ t = (-1)) => ?_)
                · refine ex_st 2 (pc' := 14) (ls' := [(0, xr 143), (1, xi t), (2, xi x), (3, xi y), (4, xi b)]) (st' := [xi t, xr 143]) rfl ?_
                  refine ex_call (ct_m_isOfficial2 (c := I 143 0) (by first | omega | (constructor <;> omega) | assumption | ((repeat rw [x_up_far (by omega)]); first | rfl | omega | (constructor <;> omega))) (by (repeat rw [x_up_far (by omega)]); try rfl) (by first | omega | (constructor <;> omega) | assumption | ((repeat rw [x_up_far (by omega)]); first | rfl | omega | (constructor <;> omega)))) (by decide) rfl ⟨rfl, rfl, rfl⟩ ⟨Nat.le_of_ble_eq_true rfl, rfl, rfl⟩ (Nat.le_of_ble_eq_true rfl) rfl ?_
                  refine ex_beq rfl (fun h19 => ?_) (fun h19 => ?_)
                  · exfalso; omega
                  · refine ex_st 2 (pc' := 22) (ls' := [(0, xr 143), (1, xi t), (2, xi x), (3, xi y), (4, xi b)]) (st' := [xi x, xr 143]) rfl ?_
                    refine ex_call (ct_m_isThing (by first | omega | (constructor <;> omega) | assumption)) (by decide) rfl ⟨rfl, rfl, rfl⟩ ⟨Nat.le_of_ble_eq_true rfl, rfl, rfl⟩ (Nat.le_of_ble_eq_true rfl) rfl ?_
                    refine ex_beq rfl (fun h20 => ?_) (fun h20 => ?_)
                    · exfalso; omega
                    · refine ex_st 2 (pc' := 30) (ls' := [(0, xr 143), (1, xi t), (2, xi x), (3, xi y), (4, xi b)]) (st' := [xi y, xr 143]) rfl ?_
                      refine ex_call (ct_m_isThing (by first | omega | (constructor <;> omega) | assumption)) (by decide) rfl ⟨rfl, rfl, rfl⟩ ⟨Nat.le_of_ble_eq_true rfl, rfl, rfl⟩ (Nat.le_of_ble_eq_true rfl) rfl ?_
                      refine ex_bne rfl (fun h21 => ?_) (fun h21 => ?_)
                      · refine ex_st 2 (pc' := 40) (ls' := [(0, xr 143), (1, xi t), (2, xi x), (3, xi y), (4, xi b)]) (st' := [xi y, xi x]) rfl ?_
                        refine ex_ic rfl (by first | omega | (constructor <;> omega) | assumption) (by first | omega | (constructor <;> omega) | assumption) (fun (h22 : ¬ x = y) => ?_) (fun (h22 : ¬ ¬ x = y) => ?_)
                        · refine ex_st 2 (pc' := 50) (ls' := [(0, xr 143), (1, xi t), (2, xi x), (3, xi y), (4, xi b)]) (st' := [xi (I 143 38)]) rfl ?_
                          rw [hc0]
                          refine ex_st 1 (pc' := 51) (ls' := [(0, xr 143), (1, xi t), (2, xi x), (3, xi y), (4, xi b)]) (st' := [xi 5, xi (↑c)]) rfl ?_
                          refine ex_ic rfl (by first | omega | (constructor <;> omega) | assumption) (by decide) (fun (h23 : ¬ (↑c : Int) = 5) => ?_) (fun (h23 : ¬ ¬ (↑c : Int) = 5) => ?_)
                          · exfalso; omega
                          · refine ex_st 1 (pc' := 56) (ls' := [(0, xr 143), (1, xi t), (2, xi x), (3, xi y), (4, xi b)]) (st' := [xi (-4)]) rfl ?_
                            refine ex_reti rfl rfl ?_
                            exact ⟨x_req (by first | rfl | omega), _, _, rfl, hR⟩
                        · exfalso; omega
                      · exfalso; omega
                · exfalso; omega
            · refine ex_st 2 (pc' := 70) (ls' := [(0, xr 0), (1, xi t), (2, xi x), (3, xi y), (4, xi b)]) (st' := [xi 1, xi y, xi x, xi t, xr 5]) rfl ?_
              refine ex_inl (M' := xM_Rw_add) (as := [xr 5, xi t, xi x, xi y, xi 1]) (rest := []) (D' := 28) rfl (Nat.le_of_ble_eq_true rfl) (by decide) rfl ⟨rfl, rfl, rfl⟩ ⟨Nat.le_of_ble_eq_true rfl, rfl, rfl⟩ (Nat.le_of_ble_eq_true rfl) rfl ?_
              refine ex_st 2 (pc' := 4) (ls' := [(0, xr 5), (1, xi t), (2, xi x), (3, xi y), (4, xi 1)]) (st' := [xi (I 5 2)]) rfl ?_
              rw [hc1]
              refine ex_st 2 (pc' := 8) (ls' := [(0, xr 5), (1, xi t), (2, xi x), (3, xi y), (4, xi 1)]) (st' := [xi (I 5 0), xi (↑c)]) rfl ?_
              rw [hz4]
              refine ex_ic rfl (by first | omega | (constructor <;> omega) | assumption) (by decide) (fun (h24 : (↑c : Int) < 5) => ?_) (fun (h24 : ¬ (↑c : Int) < 5) => ?_)
              · refine ex_st 4 (pc' := 21) (ls' := [(0, xr 5), (1, xi t), (2, xi x), (3, xi y), (4, xi 1)]) (st' := [xi (I 5 2), xr 6]) rfl ?_
                rw [hc1]
                refine ex_st 3 (pc' := 24) (ls' := [(0, xr 5), (1, xi t), (2, xi x), (3, xi y), (4, xi 1)]) (st' := [xi t, xi ((↑c) * 4), xr 6]) rfl ?_
                refine ex_iast (j := ((c) * 4)) rfl (by decide) (rfl : xSH[6]? = some _) (by omega) (by omega) (by decide) ?_
                refine ex_st 4 (pc' := 33) (ls' := [(0, xr 5), (1, xi t), (2, xi x), (3, xi y), (4, xi 1)]) (st' := [xi ((x_up I 6 ((c) * 4) t) 5 2), xr 6]) rfl ?_
                rw [(x_up_far (by first | decide | omega) : (x_up I 6 ((c) * 4) t) 5 2 = I 5 2)]
                rw [hc1]
                refine ex_st 5 (pc' := 38) (ls' := [(0, xr 5), (1, xi t), (2, xi x), (3, xi y), (4, xi 1)]) (st' := [xi x, xi (((↑c) * 4) + 1), xr 6]) rfl ?_
                refine ex_iast (j := (((c) * 4) + 1)) rfl (by decide) (rfl : xSH[6]? = some _) (by omega) (by omega) (by decide) ?_
                refine ex_st 4 (pc' := 47) (ls' := [(0, xr 5), (1, xi t), (2, xi x), (3, xi y), (4, xi 1)]) (st' := [xi ((x_up (x_up I 6 ((c) * 4) t) 6 (((c) * 4) + 1) x) 5 2), xr 6]) rfl ?_
                rw [(x_up_far (by first | decide | omega) : (x_up (x_up I 6 ((c) * 4) t) 6 (((c) * 4) + 1) x) 5 2 = (x_up I 6 ((c) * 4) t) 5 2)]
                rw [(x_up_far (by first | decide | omega) : (x_up I 6 ((c) * 4) t) 5 2 = I 5 2)]
                rw [hc1]
                refine ex_st 5 (pc' := 52) (ls' := [(0, xr 5), (1, xi t), (2, xi x), (3, xi y), (4, xi 1)]) (st' := [xi y, xi (((↑c) * 4) + 2), xr 6]) rfl ?_
                refine ex_iast (j := (((c) * 4) + 2)) rfl (by decide) (rfl : xSH[6]? = some _) (by omega) (by omega) (by decide) ?_
                refine ex_st 4 (pc' := 61) (ls' := [(0, xr 5), (1, xi t), (2, xi x), (3, xi y), (4, xi 1)]) (st' := [xi ((x_up (x_up (x_up I 6 ((c) * 4) t) 6 (((c) * 4) + 1) x) 6 (((c) * 4) + 2) y) 5 2), xr 6]) rfl ?_
                rw [(x_up_far (by first | decide | omega) : (x_up (x_up (x_up I 6 ((c) * 4) t) 6 (((c) * 4) + 1) x) 6 (((c) * 4) + 2) y) 5 2 = (x_up (x_up I 6 ((c) * 4) t) 6 (((c) * 4) + 1) x) 5 2)]
                rw [(x_up_far (by first | decide | omega) : (x_up (x_up I 6 ((c) * 4) t) 6 (((c) * 4) + 1) x) 5 2 = (x_up I 6 ((c) * 4) t) 5 2)]
                rw [(x_up_far (by first | decide | omega) : (x_up I 6 ((c) * 4) t) 5 2 = I 5 2)]
                rw [hc1]
                refine ex_st 5 (pc' := 67) (ls' := [(0, xr 5), (1, xi t), (2, xi x), (3, xi y), (4, xi 1)]) (st' := [xi 1, xi (((↑c) * 4) + 3), xr 6]) rfl ?_
                refine ex_iast (j := (((c) * 4) + 3)) rfl (by decide) (rfl : xSH[6]? = some _) (by omega) (by omega) (by decide) ?_
                refine ex_st 3 (pc' := 73) (ls' := [(0, xr 5), (1, xi t), (2, xi x), (3, xi y), (4, xi 1)]) (st' := [xi ((x_up (x_up (x_up (x_up I 6 ((c) * 4) t) 6 (((c) * 4) + 1) x) 6 (((c) * 4) + 2) y) 6 (((c) * 4) + 3) 1) 5 2), xr 5]) rfl ?_
                rw [(x_up_far (by first | decide | omega) : (x_up (x_up (x_up (x_up I 6 ((c) * 4) t) 6 (((c) * 4) + 1) x) 6 (((c) * 4) + 2) y) 6 (((c) * 4) + 3) 1) 5 2 = (x_up (x_up (x_up I 6 ((c) * 4) t) 6 (((c) * 4) + 1) x) 6 (((c) * 4) + 2) y) 5 2)]
                rw [(x_up_far (by first | decide | omega) : (x_up (x_up (x_up I 6 ((c) * 4) t) 6 (((c) * 4) + 1) x) 6 (((c) * 4) + 2) y) 5 2 = (x_up (x_up I 6 ((c) * 4) t) 6 (((c) * 4) + 1) x) 5 2)]
                rw [(x_up_far (by first | decide | omega) : (x_up (x_up I 6 ((c) * 4) t) 6 (((c) * 4) + 1) x) 5 2 = (x_up I 6 ((c) * 4) t) 5 2)]
                rw [(x_up_far (by first | decide | omega) : (x_up I 6 ((c) * 4) t) 5 2 = I 5 2)]
                rw [hc1]
                refine ex_st 2 (pc' := 75) (ls' := [(0, xr 5), (1, xi t), (2, xi x), (3, xi y), (4, xi 1)]) (st' := [xi ((↑c) + 1), xr 5]) rfl ?_
                refine ex_pfi rfl (by decide) (rfl : xSH[5]? = some _) (by decide) rfl (by decide) (fun h => by cases h) ?_
                refine ex_st 1 (pc' := 79) (ls' := [(0, xr 5), (1, xi t), (2, xi x), (3, xi y), (4, xi 1)]) (st' := [xi 1]) rfl ?_
                refine ex_retz rfl (Or.inr rfl) rfl ?_
                refine ex_st 1 (pc' := 76) (ls' := [(0, xr 0), (1, xi t), (2, xi x), (3, xi y), (4, xi b)]) (st' := []) rfl ?_
                refine ex_st 4 (pc' := 86) (ls' := [(0, xr 0), (1, xi t), (2, xi x), (3, xi y), (4, xi b)]) (st' := [xi ((x_up (x_up (x_up (x_up (x_up I 6 ((c) * 4) t) 6 (((c) * 4) + 1) x) 6 (((c) * 4) + 2) y) 6 (((c) * 4) + 3) 1) 5 2 ((↑c) + 1)) 5 2)]) rfl ?_
                rw [x_up_at (x_up (x_up (x_up (x_up I 6 ((c) * 4) t) 6 (((c) * 4) + 1) x) 6 (((c) * 4) + 2) y) 6 (((c) * 4) + 3) 1) 5 2 ((↑c) + 1)]
                refine ex_st 1 (pc' := 91) (ls' := [(0, xr 0), (1, xi t), (2, xi x), (3, xi y), (4, xi b)]) (st' := [xi ((↑c) + 1)]) rfl ?_
                refine ex_reti rfl rfl ?_
                refine x_CQ.of (M := xM_m_see) rfl (Nat.le_of_ble_eq_true rfl) ?_
                refine ex_st 2 (pc' := 2) (ls' := [(0, xr 143), (1, xi t), (2, xi x), (3, xi y), (4, xi b)]) (st' := [xi (-1), xi t]) rfl ?_
                refine ex_ic rfl (by first | omega | (constructor <;> omega) | assumption) (by decide) (fun (h25 : ¬ t = (-1)) => ?_) (fun (h25 : ¬ ¬ t = (-1)) => ?_)
                · refine ex_st 2 (pc' := 14) (ls' := [(0, xr 143), (1, xi t), (2, xi x), (3, xi y), (4, xi b)]) (st' := [xi t, xr 143]) rfl ?_
                  refine ex_call (ct_m_isOfficial2 (c := I 143 0) (by first | omega | (constructor <;> omega) | assumption | ((repeat rw [x_up_far (by omega)]); first | rfl | omega | (constructor <;> omega))) (by (repeat rw [x_up_far (by omega)]); try rfl) (by first | omega | (constructor <;> omega) | assumption | ((repeat rw [x_up_far (by omega)]); first | rfl | omega | (constructor <;> omega)))) (by decide) rfl ⟨rfl, rfl, rfl⟩ ⟨Nat.le_of_ble_eq_true rfl, rfl, rfl⟩ (Nat.le_of_ble_eq_true rfl) rfl ?_
                  refine ex_beq rfl (fun h26 => ?_) (fun h26 => ?_)
                  · exfalso; omega
                  · refine ex_st 2 (pc' := 22) (ls' := [(0, xr 143), (1, xi t), (2, xi x), (3, xi y), (4, xi b)]) (st' := [xi x, xr 143]) rfl ?_
                    refine ex_call (ct_m_isThing (by first | omega | (constructor <;> omega) | assumption)) (by decide) rfl ⟨rfl, rfl, rfl⟩ ⟨Nat.le_of_ble_eq_true rfl, rfl, rfl⟩ (Nat.le_of_ble_eq_true rfl) rfl ?_
                    refine ex_beq rfl (fun h27 => ?_) (fun h27 => ?_)
                    · exfalso; omega
                    · refine ex_st 2 (pc' := 30) (ls' := [(0, xr 143), (1, xi t), (2, xi x), (3, xi y), (4, xi b)]) (st' := [xi y, xr 143]) rfl ?_
                      refine ex_call (ct_m_isThing (by first | omega | (constructor <;> omega) | assumption)) (by decide) rfl ⟨rfl, rfl, rfl⟩ ⟨Nat.le_of_ble_eq_true rfl, rfl, rfl⟩ (Nat.le_of_ble_eq_true rfl) rfl ?_
                      refine ex_bne rfl (fun h28 => ?_) (fun h28 => ?_)
                      · refine ex_st 2 (pc' := 40) (ls' := [(0, xr 143), (1, xi t), (2, xi x), (3, xi y), (4, xi b)]) (st' := [xi y, xi x]) rfl ?_
                        refine ex_ic rfl (by first | omega | (constructor <;> omega) | assumption) (by first | omega | (constructor <;> omega) | assumption) (fun (h29 : ¬ x = y) => ?_) (fun (h29 : ¬ ¬ x = y) => ?_)
                        · refine ex_st 2 (pc' := 50) (ls' := [(0, xr 143), (1, xi t), (2, xi x), (3, xi y), (4, xi b)]) (st' := [xi ((x_up (x_up (x_up (x_up (x_up I 6 ((c) * 4) t) 6 (((c) * 4) + 1) x) 6 (((c) * 4) + 2) y) 6 (((c) * 4) + 3) 1) 5 2 ((↑c) + 1)) 143 38)]) rfl ?_
                          rw [(x_up_far (by first | decide | omega) : (x_up (x_up (x_up (x_up (x_up I 6 ((c) * 4) t) 6 (((c) * 4) + 1) x) 6 (((c) * 4) + 2) y) 6 (((c) * 4) + 3) 1) 5 2 ((↑c) + 1)) 143 38 = (x_up (x_up (x_up (x_up I 6 ((c) * 4) t) 6 (((c) * 4) + 1) x) 6 (((c) * 4) + 2) y) 6 (((c) * 4) + 3) 1) 143 38)]
                          rw [(x_up_far (by first | decide | omega) : (x_up (x_up (x_up (x_up I 6 ((c) * 4) t) 6 (((c) * 4) + 1) x) 6 (((c) * 4) + 2) y) 6 (((c) * 4) + 3) 1) 143 38 = (x_up (x_up (x_up I 6 ((c) * 4) t) 6 (((c) * 4) + 1) x) 6 (((c) * 4) + 2) y) 143 38)]
                          rw [(x_up_far (by first | decide | omega) : (x_up (x_up (x_up I 6 ((c) * 4) t) 6 (((c) * 4) + 1) x) 6 (((c) * 4) + 2) y) 143 38 = (x_up (x_up I 6 ((c) * 4) t) 6 (((c) * 4) + 1) x) 143 38)]
                          rw [(x_up_far (by first | decide | omega) : (x_up (x_up I 6 ((c) * 4) t) 6 (((c) * 4) + 1) x) 143 38 = (x_up I 6 ((c) * 4) t) 143 38)]
                          rw [(x_up_far (by first | decide | omega) : (x_up I 6 ((c) * 4) t) 143 38 = I 143 38)]
                          rw [hc0]
                          refine ex_st 1 (pc' := 51) (ls' := [(0, xr 143), (1, xi t), (2, xi x), (3, xi y), (4, xi b)]) (st' := [xi 5, xi (↑c)]) rfl ?_
                          refine ex_ic rfl (by first | omega | (constructor <;> omega) | assumption) (by decide) (fun (h30 : ¬ (↑c : Int) = 5) => ?_) (fun (h30 : ¬ ¬ (↑c : Int) = 5) => ?_)
                          · refine ex_st 4 (pc' := 65) (ls' := [(0, xr 143), (1, xi t), (2, xi x), (3, xi y), (4, xi b)]) (st' := [xi ((x_up (x_up (x_up (x_up (x_up I 6 ((c) * 4) t) 6 (((c) * 4) + 1) x) 6 (((c) * 4) + 2) y) 6 (((c) * 4) + 3) 1) 5 2 ((↑c) + 1)) 143 38), xr 165]) rfl ?_
                            rw [(x_up_far (by first | decide | omega) : (x_up (x_up (x_up (x_up (x_up I 6 ((c) * 4) t) 6 (((c) * 4) + 1) x) 6 (((c) * 4) + 2) y) 6 (((c) * 4) + 3) 1) 5 2 ((↑c) + 1)) 143 38 = (x_up (x_up (x_up (x_up I 6 ((c) * 4) t) 6 (((c) * 4) + 1) x) 6 (((c) * 4) + 2) y) 6 (((c) * 4) + 3) 1) 143 38)]
                            rw [(x_up_far (by first | decide | omega) : (x_up (x_up (x_up (x_up I 6 ((c) * 4) t) 6 (((c) * 4) + 1) x) 6 (((c) * 4) + 2) y) 6 (((c) * 4) + 3) 1) 143 38 = (x_up (x_up (x_up I 6 ((c) * 4) t) 6 (((c) * 4) + 1) x) 6 (((c) * 4) + 2) y) 143 38)]
                            rw [(x_up_far (by first | decide | omega) : (x_up (x_up (x_up I 6 ((c) * 4) t) 6 (((c) * 4) + 1) x) 6 (((c) * 4) + 2) y) 143 38 = (x_up (x_up I 6 ((c) * 4) t) 6 (((c) * 4) + 1) x) 143 38)]
                            rw [(x_up_far (by first | decide | omega) : (x_up (x_up I 6 ((c) * 4) t) 6 (((c) * 4) + 1) x) 143 38 = (x_up I 6 ((c) * 4) t) 143 38)]
                            rw [(x_up_far (by first | decide | omega) : (x_up I 6 ((c) * 4) t) 143 38 = I 143 38)]
                            rw [hc0]
                            refine ex_st 1 (pc' := 66) (ls' := [(0, xr 143), (1, xi t), (2, xi x), (3, xi y), (4, xi b)]) (st' := [xi t, xi (↑c), xr 165]) rfl ?_
                            refine ex_iast (j := c) rfl (by decide) (rfl : xSH[165]? = some _) (by omega) (by omega) (by decide) ?_
                            refine ex_st 4 (pc' := 75) (ls' := [(0, xr 143), (1, xi t), (2, xi x), (3, xi y), (4, xi b)]) (st' := [xi ((x_up (x_up (x_up (x_up (x_up (x_up I 6 ((c) * 4) t) 6 (((c) * 4) + 1) x) 6 (((c) * 4) + 2) y) 6 (((c) * 4) + 3) 1) 5 2 ((↑c) + 1)) 165 c t) 143 38), xr 166]) rfl ?_
                            rw [(x_up_far (by first | decide | omega) : (x_up (x_up (x_up (x_up (x_up (x_up I 6 ((c) * 4) t) 6 (((c) * 4) + 1) x) 6 (((c) * 4) + 2) y) 6 (((c) * 4) + 3) 1) 5 2 ((↑c) + 1)) 165 c t) 143 38 = (x_up (x_up (x_up (x_up (x_up I 6 ((c) * 4) t) 6 (((c) * 4) + 1) x) 6 (((c) * 4) + 2) y) 6 (((c) * 4) + 3) 1) 5 2 ((↑c) + 1)) 143 38)]
                            rw [(x_up_far (by first | decide | omega) : (x_up (x_up (x_up (x_up (x_up I 6 ((c) * 4) t) 6 (((c) * 4) + 1) x) 6 (((c) * 4) + 2) y) 6 (((c) * 4) + 3) 1) 5 2 ((↑c) + 1)) 143 38 = (x_up (x_up (x_up (x_up I 6 ((c) * 4) t) 6 (((c) * 4) + 1) x) 6 (((c) * 4) + 2) y) 6 (((c) * 4) + 3) 1) 143 38)]
                            rw [(x_up_far (by first | decide | omega) : (x_up (x_up (x_up (x_up I 6 ((c) * 4) t) 6 (((c) * 4) + 1) x) 6 (((c) * 4) + 2) y) 6 (((c) * 4) + 3) 1) 143 38 = (x_up (x_up (x_up I 6 ((c) * 4) t) 6 (((c) * 4) + 1) x) 6 (((c) * 4) + 2) y) 143 38)]
                            rw [(x_up_far (by first | decide | omega) : (x_up (x_up (x_up I 6 ((c) * 4) t) 6 (((c) * 4) + 1) x) 6 (((c) * 4) + 2) y) 143 38 = (x_up (x_up I 6 ((c) * 4) t) 6 (((c) * 4) + 1) x) 143 38)]
                            rw [(x_up_far (by first | decide | omega) : (x_up (x_up I 6 ((c) * 4) t) 6 (((c) * 4) + 1) x) 143 38 = (x_up I 6 ((c) * 4) t) 143 38)]
                            rw [(x_up_far (by first | decide | omega) : (x_up I 6 ((c) * 4) t) 143 38 = I 143 38)]
                            rw [hc0]
                            refine ex_st 1 (pc' := 76) (ls' := [(0, xr 143), (1, xi t), (2, xi x), (3, xi y), (4, xi b)]) (st' := [xi x, xi (↑c), xr 166]) rfl ?_
                            refine ex_iast (j := c) rfl (by decide) (rfl : xSH[166]? = some _) (by omega) (by omega) (by decide) ?_
                            refine ex_st 4 (pc' := 85) (ls' := [(0, xr 143), (1, xi t), (2, xi x), (3, xi y), (4, xi b)]) (st' := [xi ((x_up (x_up (x_up (x_up (x_up (x_up (x_up I 6 ((c) * 4) t) 6 (((c) * 4) + 1) x) 6 (((c) * 4) + 2) y) 6 (((c) * 4) + 3) 1) 5 2 ((↑c) + 1)) 165 c t) 166 c x) 143 38), xr 167]) rfl ?_
                            rw [(x_up_far (by first | decide | omega) : (x_up (x_up (x_up (x_up (x_up (x_up (x_up I 6 ((c) * 4) t) 6 (((c) * 4) + 1) x) 6 (((c) * 4) + 2) y) 6 (((c) * 4) + 3) 1) 5 2 ((↑c) + 1)) 165 c t) 166 c x) 143 38 = (x_up (x_up (x_up (x_up (x_up (x_up I 6 ((c) * 4) t) 6 (((c) * 4) + 1) x) 6 (((c) * 4) + 2) y) 6 (((c) * 4) + 3) 1) 5 2 ((↑c) + 1)) 165 c t) 143 38)]
                            rw [(x_up_far (by first | decide | omega) : (x_up (x_up (x_up (x_up (x_up (x_up I 6 ((c) * 4) t) 6 (((c) * 4) + 1) x) 6 (((c) * 4) + 2) y) 6 (((c) * 4) + 3) 1) 5 2 ((↑c) + 1)) 165 c t) 143 38 = (x_up (x_up (x_up (x_up (x_up I 6 ((c) * 4) t) 6 (((c) * 4) + 1) x) 6 (((c) * 4) + 2) y) 6 (((c) * 4) + 3) 1) 5 2 ((↑c) + 1)) 143 38)]
                            rw [(x_up_far (by first | decide | omega) : (x_up (x_up (x_up (x_up (x_up I 6 ((c) * 4) t) 6 (((c) * 4) + 1) x) 6 (((c) * 4) + 2) y) 6 (((c) * 4) + 3) 1) 5 2 ((↑c) + 1)) 143 38 = (x_up (x_up (x_up (x_up I 6 ((c) * 4) t) 6 (((c) * 4) + 1) x) 6 (((c) * 4) + 2) y) 6 (((c) * 4) + 3) 1) 143 38)]
                            rw [(x_up_far (by first | decide | omega) : (x_up (x_up (x_up (x_up I 6 ((c) * 4) t) 6 (((c) * 4) + 1) x) 6 (((c) * 4) + 2) y) 6 (((c) * 4) + 3) 1) 143 38 = (x_up (x_up (x_up I 6 ((c) * 4) t) 6 (((c) * 4) + 1) x) 6 (((c) * 4) + 2) y) 143 38)]
                            rw [(x_up_far (by first | decide | omega) : (x_up (x_up (x_up I 6 ((c) * 4) t) 6 (((c) * 4) + 1) x) 6 (((c) * 4) + 2) y) 143 38 = (x_up (x_up I 6 ((c) * 4) t) 6 (((c) * 4) + 1) x) 143 38)]
                            rw [(x_up_far (by first | decide | omega) : (x_up (x_up I 6 ((c) * 4) t) 6 (((c) * 4) + 1) x) 143 38 = (x_up I 6 ((c) * 4) t) 143 38)]
                            rw [(x_up_far (by first | decide | omega) : (x_up I 6 ((c) * 4) t) 143 38 = I 143 38)]
                            rw [hc0]
                            refine ex_st 1 (pc' := 86) (ls' := [(0, xr 143), (1, xi t), (2, xi x), (3, xi y), (4, xi b)]) (st' := [xi y, xi (↑c), xr 167]) rfl ?_
                            refine ex_iast (j := c) rfl (by decide) (rfl : xSH[167]? = some _) (by omega) (by omega) (by decide) ?_
                            refine ex_st 4 (pc' := 95) (ls' := [(0, xr 143), (1, xi t), (2, xi x), (3, xi y), (4, xi b)]) (st' := [xi ((x_up (x_up (x_up (x_up (x_up (x_up (x_up (x_up I 6 ((c) * 4) t) 6 (((c) * 4) + 1) x) 6 (((c) * 4) + 2) y) 6 (((c) * 4) + 3) 1) 5 2 ((↑c) + 1)) 165 c t) 166 c x) 167 c y) 143 38), xr 168]) rfl ?_
                            rw [(x_up_far (by first | decide | omega) : (x_up (x_up (x_up (x_up (x_up (x_up (x_up (x_up I 6 ((c) * 4) t) 6 (((c) * 4) + 1) x) 6 (((c) * 4) + 2) y) 6 (((c) * 4) + 3) 1) 5 2 ((↑c) + 1)) 165 c t) 166 c x) 167 c y) 143 38 = (x_up (x_up (x_up (x_up (x_up (x_up (x_up I 6 ((c) * 4) t) 6 (((c) * 4) + 1) x) 6 (((c) * 4) + 2) y) 6 (((c) * 4) + 3) 1) 5 2 ((↑c) + 1)) 165 c t) 166 c x) 143 38)]
                            rw [(x_up_far (by first | decide | omega) : (x_up (x_up (x_up (x_up (x_up (x_up (x_up I 6 ((c) * 4) t) 6 (((c) * 4) + 1) x) 6 (((c) * 4) + 2) y) 6 (((c) * 4) + 3) 1) 5 2 ((↑c) + 1)) 165 c t) 166 c x) 143 38 = (x_up (x_up (x_up (x_up (x_up (x_up I 6 ((c) * 4) t) 6 (((c) * 4) + 1) x) 6 (((c) * 4) + 2) y) 6 (((c) * 4) + 3) 1) 5 2 ((↑c) + 1)) 165 c t) 143 38)]
                            rw [(x_up_far (by first | decide | omega) : (x_up (x_up (x_up (x_up (x_up (x_up I 6 ((c) * 4) t) 6 (((c) * 4) + 1) x) 6 (((c) * 4) + 2) y) 6 (((c) * 4) + 3) 1) 5 2 ((↑c) + 1)) 165 c t) 143 38 = (x_up (x_up (x_up (x_up (x_up I 6 ((c) * 4) t) 6 (((c) * 4) + 1) x) 6 (((c) * 4) + 2) y) 6 (((c) * 4) + 3) 1) 5 2 ((↑c) + 1)) 143 38)]
                            rw [(x_up_far (by first | decide | omega) : (x_up (x_up (x_up (x_up (x_up I 6 ((c) * 4) t) 6 (((c) * 4) + 1) x) 6 (((c) * 4) + 2) y) 6 (((c) * 4) + 3) 1) 5 2 ((↑c) + 1)) 143 38 = (x_up (x_up (x_up (x_up I 6 ((c) * 4) t) 6 (((c) * 4) + 1) x) 6 (((c) * 4) + 2) y) 6 (((c) * 4) + 3) 1) 143 38)]
                            rw [(x_up_far (by first | decide | omega) : (x_up (x_up (x_up (x_up I 6 ((c) * 4) t) 6 (((c) * 4) + 1) x) 6 (((c) * 4) + 2) y) 6 (((c) * 4) + 3) 1) 143 38 = (x_up (x_up (x_up I 6 ((c) * 4) t) 6 (((c) * 4) + 1) x) 6 (((c) * 4) + 2) y) 143 38)]
                            rw [(x_up_far (by first | decide | omega) : (x_up (x_up (x_up I 6 ((c) * 4) t) 6 (((c) * 4) + 1) x) 6 (((c) * 4) + 2) y) 143 38 = (x_up (x_up I 6 ((c) * 4) t) 6 (((c) * 4) + 1) x) 143 38)]
                            rw [(x_up_far (by first | decide | omega) : (x_up (x_up I 6 ((c) * 4) t) 6 (((c) * 4) + 1) x) 143 38 = (x_up I 6 ((c) * 4) t) 143 38)]
                            rw [(x_up_far (by first | decide | omega) : (x_up I 6 ((c) * 4) t) 143 38 = I 143 38)]
                            rw [hc0]
                            refine ex_st 1 (pc' := 97) (ls' := [(0, xr 143), (1, xi t), (2, xi x), (3, xi y), (4, xi b)]) (st' := [xi b, xi (↑c), xr 168]) rfl ?_
                            refine ex_bast (j := c) rfl (by decide) (rfl : xSH[168]? = some _) (by omega) (by omega) (by decide) (by right; exact ⟨rfl, hb⟩) ?_
                            refine ex_st 3 (pc' := 103) (ls' := [(0, xr 143), (1, xi t), (2, xi x), (3, xi y), (4, xi b)]) (st' := [xi ((x_up (x_up (x_up (x_up (x_up (x_up (x_up (x_up (x_up I 6 ((c) * 4) t) 6 (((c) * 4) + 1) x) 6 (((c) * 4) + 2) y) 6 (((c) * 4) + 3) 1) 5 2 ((↑c) + 1)) 165 c t) 166 c x) 167 c y) 168 c b) 143 38), xr 143]) rfl ?_
                            rw [(x_up_far (by first | decide | omega) : (x_up (x_up (x_up (x_up (x_up (x_up (x_up (x_up (x_up I 6 ((c) * 4) t) 6 (((c) * 4) + 1) x) 6 (((c) * 4) + 2) y) 6 (((c) * 4) + 3) 1) 5 2 ((↑c) + 1)) 165 c t) 166 c x) 167 c y) 168 c b) 143 38 = (x_up (x_up (x_up (x_up (x_up (x_up (x_up (x_up I 6 ((c) * 4) t) 6 (((c) * 4) + 1) x) 6 (((c) * 4) + 2) y) 6 (((c) * 4) + 3) 1) 5 2 ((↑c) + 1)) 165 c t) 166 c x) 167 c y) 143 38)]
                            rw [(x_up_far (by first | decide | omega) : (x_up (x_up (x_up (x_up (x_up (x_up (x_up (x_up I 6 ((c) * 4) t) 6 (((c) * 4) + 1) x) 6 (((c) * 4) + 2) y) 6 (((c) * 4) + 3) 1) 5 2 ((↑c) + 1)) 165 c t) 166 c x) 167 c y) 143 38 = (x_up (x_up (x_up (x_up (x_up (x_up (x_up I 6 ((c) * 4) t) 6 (((c) * 4) + 1) x) 6 (((c) * 4) + 2) y) 6 (((c) * 4) + 3) 1) 5 2 ((↑c) + 1)) 165 c t) 166 c x) 143 38)]
                            rw [(x_up_far (by first | decide | omega) : (x_up (x_up (x_up (x_up (x_up (x_up (x_up I 6 ((c) * 4) t) 6 (((c) * 4) + 1) x) 6 (((c) * 4) + 2) y) 6 (((c) * 4) + 3) 1) 5 2 ((↑c) + 1)) 165 c t) 166 c x) 143 38 = (x_up (x_up (x_up (x_up (x_up (x_up I 6 ((c) * 4) t) 6 (((c) * 4) + 1) x) 6 (((c) * 4) + 2) y) 6 (((c) * 4) + 3) 1) 5 2 ((↑c) + 1)) 165 c t) 143 38)]
                            rw [(x_up_far (by first | decide | omega) : (x_up (x_up (x_up (x_up (x_up (x_up I 6 ((c) * 4) t) 6 (((c) * 4) + 1) x) 6 (((c) * 4) + 2) y) 6 (((c) * 4) + 3) 1) 5 2 ((↑c) + 1)) 165 c t) 143 38 = (x_up (x_up (x_up (x_up (x_up I 6 ((c) * 4) t) 6 (((c) * 4) + 1) x) 6 (((c) * 4) + 2) y) 6 (((c) * 4) + 3) 1) 5 2 ((↑c) + 1)) 143 38)]
                            rw [(x_up_far (by first | decide | omega) : (x_up (x_up (x_up (x_up (x_up I 6 ((c) * 4) t) 6 (((c) * 4) + 1) x) 6 (((c) * 4) + 2) y) 6 (((c) * 4) + 3) 1) 5 2 ((↑c) + 1)) 143 38 = (x_up (x_up (x_up (x_up I 6 ((c) * 4) t) 6 (((c) * 4) + 1) x) 6 (((c) * 4) + 2) y) 6 (((c) * 4) + 3) 1) 143 38)]
                            rw [(x_up_far (by first | decide | omega) : (x_up (x_up (x_up (x_up I 6 ((c) * 4) t) 6 (((c) * 4) + 1) x) 6 (((c) * 4) + 2) y) 6 (((c) * 4) + 3) 1) 143 38 = (x_up (x_up (x_up I 6 ((c) * 4) t) 6 (((c) * 4) + 1) x) 6 (((c) * 4) + 2) y) 143 38)]
                            rw [(x_up_far (by first | decide | omega) : (x_up (x_up (x_up I 6 ((c) * 4) t) 6 (((c) * 4) + 1) x) 6 (((c) * 4) + 2) y) 143 38 = (x_up (x_up I 6 ((c) * 4) t) 6 (((c) * 4) + 1) x) 143 38)]
                            rw [(x_up_far (by first | decide | omega) : (x_up (x_up I 6 ((c) * 4) t) 6 (((c) * 4) + 1) x) 143 38 = (x_up I 6 ((c) * 4) t) 143 38)]
                            rw [(x_up_far (by first | decide | omega) : (x_up I 6 ((c) * 4) t) 143 38 = I 143 38)]
                            rw [hc0]
                            refine ex_st 2 (pc' := 105) (ls' := [(0, xr 143), (1, xi t), (2, xi x), (3, xi y), (4, xi b)]) (st' := [xi ((↑c) + 1), xr 143]) rfl ?_
                            refine ex_pfi rfl (by decide) (rfl : xSH[143]? = some _) (by decide) rfl (by decide) (fun h => by cases h) ?_
                            refine ex_st 2 (pc' := 112) (ls' := [(0, xr 143), (1, xi t), (2, xi x), (3, xi y), (4, xi b)]) (st' := [xi ((x_up (x_up (x_up (x_up (x_up (x_up (x_up (x_up (x_up (x_up I 6 ((c) * 4) t) 6 (((c) * 4) + 1) x) 6 (((c) * 4) + 2) y) 6 (((c) * 4) + 3) 1) 5 2 ((↑c) + 1)) 165 c t) 166 c x) 167 c y) 168 c b) 143 38 ((↑c) + 1)) 143 38)]) rfl ?_
                            rw [x_up_at (x_up (x_up (x_up (x_up (x_up (x_up (x_up (x_up (x_up I 6 ((c) * 4) t) 6 (((c) * 4) + 1) x) 6 (((c) * 4) + 2) y) 6 (((c) * 4) + 3) 1) 5 2 ((↑c) + 1)) 165 c t) 166 c x) 167 c y) 168 c b) 143 38 ((↑c) + 1)]
                            refine ex_reti rfl rfl ?_
                            refine ⟨x_req (by first | rfl | omega), ?_⟩
                            refine ⟨_, _, rfl, ?_⟩
                            generalize hM : (x_up (x_up (x_up (x_up (x_up (x_up (x_up (x_up (x_up (x_up I 6 ((c) * 4) t) 6 (((c) * 4) + 1) x) 6 (((c) * 4) + 2) y) 6 (((c) * 4) + 3) 1) 5 2 ((↑c) + 1)) 165 c t) 166 c x) 167 c y) 168 c b) 143 38 ((↑c) + 1)) = I2
                            have hF : ∀ k j, ¬ ((k = 143 ∧ j = 38) ∨ (k = 168 ∧ j = c) ∨ (k = 167 ∧ j = c) ∨ (k = 166 ∧ j = c) ∨ (k = 165 ∧ j = c) ∨ (k = 5 ∧ j = 2) ∨ (k = 6 ∧ j = ((c) * 4) + 3) ∨ (k = 6 ∧ j = ((c) * 4) + 2) ∨ (k = 6 ∧ j = ((c) * 4) + 1) ∨ (k = 6 ∧ j = (c) * 4)) → I2 k j = I k j := by intro k j hk; rw [← hM]; (repeat rw [x_up_far (by omega)])
                            have hw0 : I2 143 38 = ((↑c) + 1) := by rw [← hM]; (repeat (first | rw [x_up_far (by omega)] | rw [x_up_at2 (by omega) (by omega)]))
                            have hw1 : I2 168 c = b := by rw [← hM]; (repeat (first | rw [x_up_far (by omega)] | rw [x_up_at2 (by omega) (by omega)]))
                            have hw2 : I2 167 c = y := by rw [← hM]; (repeat (first | rw [x_up_far (by omega)] | rw [x_up_at2 (by omega) (by omega)]))
                            have hw3 : I2 166 c = x := by rw [← hM]; (repeat (first | rw [x_up_far (by omega)] | rw [x_up_at2 (by omega) (by omega)]))
                            have hw4 : I2 165 c = t := by rw [← hM]; (repeat (first | rw [x_up_far (by omega)] | rw [x_up_at2 (by omega) (by omega)]))
                            have hw5 : I2 5 2 = ((↑c) + 1) := by rw [← hM]; (repeat (first | rw [x_up_far (by omega)] | rw [x_up_at2 (by omega) (by omega)]))
                            have hw6 : I2 6 (((c) * 4) + 3) = 1 := by rw [← hM]; (repeat (first | rw [x_up_far (by omega)] | rw [x_up_at2 (by omega) (by omega)]))
                            have hw7 : I2 6 (((c) * 4) + 2) = y := by rw [← hM]; (repeat (first | rw [x_up_far (by omega)] | rw [x_up_at2 (by omega) (by omega)]))
                            have hw8 : I2 6 (((c) * 4) + 1) = x := by rw [← hM]; (repeat (first | rw [x_up_far (by omega)] | rw [x_up_at2 (by omega) (by omega)]))
                            have hw9 : I2 6 ((c) * 4) = t := by rw [← hM]; (repeat (first | rw [x_up_far (by omega)] | rw [x_up_at2 (by omega) (by omega)]))
                            clear hM
                            have hI2 : RIw I2 := by
                              obtain ⟨gs, go, ga, gb, gr, gd, gg, ge, gp, gk⟩ := id hI
                              exact ⟨gs.fr ⟨by (repeat rw [hF _ _ (by omega)]); try rfl, by (repeat rw [hF _ _ (by omega)]); try rfl, by (repeat rw [hF _ _ (by omega)]); try rfl, by (repeat rw [hF _ _ (by omega)]); try rfl, by (repeat rw [hF _ _ (by omega)]); try rfl, by (repeat rw [hF _ _ (by omega)]); try rfl, by (repeat rw [hF _ _ (by omega)]); try rfl, by (repeat rw [hF _ _ (by omega)]); try rfl, by (repeat rw [hF _ _ (by omega)]); try rfl⟩, go.fr (by intros; (repeat rw [hF _ _ (by omega)]); try rfl) (by intros; (repeat rw [hF _ _ (by omega)]); try rfl), ga.fr (by intros; (repeat rw [hF _ _ (by omega)]); try rfl) (by (repeat rw [hF _ _ (by omega)]); try rfl), gb.fr (by intros; (repeat rw [hF _ _ (by omega)]); try rfl) (by intros; (repeat rw [hF _ _ (by omega)]); try rfl), gr.fr (by intros; (repeat rw [hF _ _ (by omega)]); try rfl) (by intros; (repeat rw [hF _ _ (by omega)]); try rfl), gd.fr (by intros; (repeat rw [hF _ _ (by omega)]); try rfl) (by intros; (repeat rw [hF _ _ (by omega)]); try rfl) (by (repeat rw [hF _ _ (by omega)]); try rfl), gg.fr ⟨by (repeat rw [hF _ _ (by omega)]); try rfl, by (repeat rw [hF _ _ (by omega)]); try rfl⟩ (by intros; (repeat rw [hF _ _ (by omega)]); try rfl) (by intros; (repeat rw [hF _ _ (by omega)]); try rfl), ge.fr ⟨by (repeat rw [hF _ _ (by omega)]); try rfl, by (repeat rw [hF _ _ (by omega)]); try rfl, by (repeat rw [hF _ _ (by omega)]); try rfl⟩ (by intros; (repeat rw [hF _ _ (by omega)]); try rfl) (by intros; (repeat rw [hF _ _ (by omega)]); try rfl), gp.fr ⟨by (repeat rw [hF _ _ (by omega)]); try rfl, by (repeat rw [hF _ _ (by omega)]); try rfl, by (repeat rw [hF _ _ (by omega)]); try rfl⟩ (by intros; (repeat rw [hF _ _ (by omega)]); try rfl) (by intros; (repeat rw [hF _ _ (by omega)]); try rfl), gk.fr ⟨by (repeat rw [hF _ _ (by omega)]); try rfl, by (repeat rw [hF _ _ (by omega)]); try rfl, by (repeat rw [hF _ _ (by omega)]); try rfl⟩ (by intros; (repeat rw [hF _ _ (by omega)]); try rfl) (by intros; (repeat rw [hF _ _ (by omega)]); try rfl)⟩
                            refine ⟨⟨hNs.fr ⟨by (repeat rw [hF _ _ (by omega)]); try rfl, by (repeat rw [hF _ _ (by omega)]); try rfl, by (repeat rw [hF _ _ (by omega)]); try rfl, by (repeat rw [hF _ _ (by omega)]); try rfl, by (repeat rw [hF _ _ (by omega)]); try rfl, by (repeat rw [hF _ _ (by omega)]); try rfl, by (repeat rw [hF _ _ (by omega)]); try rfl, by (repeat rw [hF _ _ (by omega)]); try rfl, by (repeat rw [hF _ _ (by omega)]); try rfl⟩, hNo.fr (by intros; (repeat rw [hF _ _ (by omega)]); try rfl) (by intros; (repeat rw [hF _ _ (by omega)]); try rfl), hNa.fr (by intros; (repeat rw [hF _ _ (by omega)]); try rfl) (by (repeat rw [hF _ _ (by omega)]); try rfl), hNb.fr (by intros; (repeat rw [hF _ _ (by omega)]); try rfl) (by intros; (repeat rw [hF _ _ (by omega)]); try rfl), hNr.fr (by intros; (repeat rw [hF _ _ (by omega)]); try rfl) (by intros; (repeat rw [hF _ _ (by omega)]); try rfl), hNd.fr (by intros; (repeat rw [hF _ _ (by omega)]); try rfl) (by intros; (repeat rw [hF _ _ (by omega)]); try rfl) (by (repeat rw [hF _ _ (by omega)]); try rfl), hNg.fr ⟨by (repeat rw [hF _ _ (by omega)]); try rfl, by (repeat rw [hF _ _ (by omega)]); try rfl⟩ (by intros; (repeat rw [hF _ _ (by omega)]); try rfl) (by intros; (repeat rw [hF _ _ (by omega)]); try rfl), ?_, hNp.fr ⟨by (repeat rw [hF _ _ (by omega)]); try rfl, by (repeat rw [hF _ _ (by omega)]); try rfl, by (repeat rw [hF _ _ (by omega)]); try rfl⟩ (by intros; (repeat rw [hF _ _ (by omega)]); try rfl) (by intros; (repeat rw [hF _ _ (by omega)]); try rfl), hNk.fr ⟨by (repeat rw [hF _ _ (by omega)]); try rfl, by (repeat rw [hF _ _ (by omega)]); try rfl, by (repeat rw [hF _ _ (by omega)]); try rfl⟩ (by intros; (repeat rw [hF _ _ (by omega)]); try rfl) (by intros; (repeat rw [hF _ _ (by omega)]); try rfl)⟩, hI2, hT.fr ⟨by (repeat rw [hF _ _ (by omega)]); try rfl, by (repeat rw [hF _ _ (by omega)]); try rfl⟩ (by intros; (repeat rw [hF _ _ (by omega)]); try rfl) (by intros; (repeat rw [hF _ _ (by omega)]); try rfl) (by intros; (repeat rw [hF _ _ (by omega)]); try rfl), hX.fr ⟨by (repeat rw [hF _ _ (by omega)]); try rfl, by (repeat rw [hF _ _ (by omega)]); try rfl⟩ (by intros; (repeat rw [hF _ _ (by omega)]); try rfl), hC.fr ⟨by (repeat rw [hF _ _ (by omega)]); try rfl, by (repeat rw [hF _ _ (by omega)]); try rfl⟩ (by intros; (repeat rw [hF _ _ (by omega)]); try rfl), ?_, hQ.fr (by intros; (repeat rw [hF _ _ (by omega)]); try rfl) (by intros; (repeat rw [hF _ _ (by omega)]); try rfl) (by intros; (repeat rw [hF _ _ (by omega)]); try rfl) (by intros; (repeat rw [hF _ _ (by omega)]); try rfl)⟩
                            · refine ⟨by (repeat (first | rw [hw0] | rw [hw1] | rw [hw2] | rw [hw3] | rw [hw4] | rw [hw5] | rw [hw6] | rw [hw7] | rw [hw8] | rw [hw9] | rw [hF _ _ (by omega)])); try omega, by (repeat (first | rw [hw0] | rw [hw1] | rw [hw2] | rw [hw3] | rw [hw4] | rw [hw5] | rw [hw6] | rw [hw7] | rw [hw8] | rw [hw9] | rw [hF _ _ (by omega)])); omega, by (repeat (first | rw [hw0] | rw [hw1] | rw [hw2] | rw [hw3] | rw [hw4] | rw [hw5] | rw [hw6] | rw [hw7] | rw [hw8] | rw [hw9] | rw [hF _ _ (by omega)])); omega, by (repeat (first | rw [hw0] | rw [hw1] | rw [hw2] | rw [hw3] | rw [hw4] | rw [hw5] | rw [hw6] | rw [hw7] | rw [hw8] | rw [hw9] | rw [hF _ _ (by omega)])); try exact hz4, fun x hx => ?_⟩
                              rw [hw0] at hx
                              by_cases hxc : x = c
                              · subst hxc; (repeat (first | rw [hw0] | rw [hw1] | rw [hw2] | rw [hw3] | rw [hw4] | rw [hw5] | rw [hw6] | rw [hw7] | rw [hw8] | rw [hw9] | rw [hF _ _ (by omega)])); omega
                              · have h := hz5 x (by omega)
                                (repeat (first | rw [hw0] | rw [hw1] | rw [hw2] | rw [hw3] | rw [hw4] | rw [hw5] | rw [hw6] | rw [hw7] | rw [hw8] | rw [hw9] | rw [hF _ _ (by omega)]))
                                exact h
                            · obtain ⟨k1, k2, k3, k4, k5⟩ := hH
                              refine ⟨by (repeat (first | rw [hw0] | rw [hw1] | rw [hw2] | rw [hw3] | rw [hw4] | rw [hw5] | rw [hw6] | rw [hw7] | rw [hw8] | rw [hw9] | rw [hF _ _ (by omega)])); exact k1, by (repeat (first | rw [hw0] | rw [hw1] | rw [hw2] | rw [hw3] | rw [hw4] | rw [hw5] | rw [hw6] | rw [hw7] | rw [hw8] | rw [hw9] | rw [hF _ _ (by omega)])); exact k2, by (repeat (first | rw [hw0] | rw [hw1] | rw [hw2] | rw [hw3] | rw [hw4] | rw [hw5] | rw [hw6] | rw [hw7] | rw [hw8] | rw [hw9] | rw [hF _ _ (by omega)])); exact k3, fun x hx => by (repeat (first | rw [hw0] | rw [hw1] | rw [hw2] | rw [hw3] | rw [hw4] | rw [hw5] | rw [hw6] | rw [hw7] | rw [hw8] | rw [hw9] | rw [hF _ _ (by omega)])); exact k4 x hx, fun x hx => ?_⟩
                              by_cases hxc : x = c
                              · subst hxc; (repeat (first | rw [hw0] | rw [hw1] | rw [hw2] | rw [hw3] | rw [hw4] | rw [hw5] | rw [hw6] | rw [hw7] | rw [hw8] | rw [hw9] | rw [hF _ _ (by omega)])); exact ⟨hb, (k5 x hx).2⟩
                              · (repeat (first | rw [hw0] | rw [hw1] | rw [hw2] | rw [hw3] | rw [hw4] | rw [hw5] | rw [hw6] | rw [hw7] | rw [hw8] | rw [hw9] | rw [hF _ _ (by omega)])); exact k5 x hx
                          · exfalso; omega
                        · exfalso; omega
                      · exfalso; omega
                · exfalso; omega
              · refine ex_st 1 (pc' := 12) (ls' := [(0, xr 5), (1, xi t), (2, xi x), (3, xi y), (4, xi 1)]) (st' := [xi 0]) rfl ?_
                refine ex_retz rfl (Or.inl rfl) rfl ?_
                refine ex_st 1 (pc' := 89) (ls' := [(0, xr 0), (1, xi t), (2, xi x), (3, xi y), (4, xi b)]) (st' := []) rfl ?_
                refine ex_st 1 (pc' := 91) (ls' := [(0, xr 0), (1, xi t), (2, xi x), (3, xi y), (4, xi b)]) (st' := [xi (-4)]) rfl ?_
                refine ex_reti rfl rfl ?_
                refine x_CQ.of (M := xM_m_see) rfl (Nat.le_of_ble_eq_true rfl) ?_
                refine ex_st 2 (pc' := 2) (ls' := [(0, xr 143), (1, xi t), (2, xi x), (3, xi y), (4, xi b)]) (st' := [xi (-1), xi t]) rfl ?_
                refine ex_ic rfl (by first | omega | (constructor <;> omega) | assumption) (by decide) (fun (h31 : ¬ t = (-1)) => ?_) (fun (h31 : ¬ ¬ t = (-1)) => ?_)
                · refine ex_st 2 (pc' := 14) (ls' := [(0, xr 143), (1, xi t), (2, xi x), (3, xi y), (4, xi b)]) (st' := [xi t, xr 143]) rfl ?_
                  refine ex_call (ct_m_isOfficial2 (c := I 143 0) (by first | omega | (constructor <;> omega) | assumption | ((repeat rw [x_up_far (by omega)]); first | rfl | omega | (constructor <;> omega))) (by (repeat rw [x_up_far (by omega)]); try rfl) (by first | omega | (constructor <;> omega) | assumption | ((repeat rw [x_up_far (by omega)]); first | rfl | omega | (constructor <;> omega)))) (by decide) rfl ⟨rfl, rfl, rfl⟩ ⟨Nat.le_of_ble_eq_true rfl, rfl, rfl⟩ (Nat.le_of_ble_eq_true rfl) rfl ?_
                  refine ex_beq rfl (fun h32 => ?_) (fun h32 => ?_)
                  · exfalso; omega
                  · refine ex_st 2 (pc' := 22) (ls' := [(0, xr 143), (1, xi t), (2, xi x), (3, xi y), (4, xi b)]) (st' := [xi x, xr 143]) rfl ?_
                    refine ex_call (ct_m_isThing (by first | omega | (constructor <;> omega) | assumption)) (by decide) rfl ⟨rfl, rfl, rfl⟩ ⟨Nat.le_of_ble_eq_true rfl, rfl, rfl⟩ (Nat.le_of_ble_eq_true rfl) rfl ?_
                    refine ex_beq rfl (fun h33 => ?_) (fun h33 => ?_)
                    · exfalso; omega
                    · refine ex_st 2 (pc' := 30) (ls' := [(0, xr 143), (1, xi t), (2, xi x), (3, xi y), (4, xi b)]) (st' := [xi y, xr 143]) rfl ?_
                      refine ex_call (ct_m_isThing (by first | omega | (constructor <;> omega) | assumption)) (by decide) rfl ⟨rfl, rfl, rfl⟩ ⟨Nat.le_of_ble_eq_true rfl, rfl, rfl⟩ (Nat.le_of_ble_eq_true rfl) rfl ?_
                      refine ex_bne rfl (fun h34 => ?_) (fun h34 => ?_)
                      · refine ex_st 2 (pc' := 40) (ls' := [(0, xr 143), (1, xi t), (2, xi x), (3, xi y), (4, xi b)]) (st' := [xi y, xi x]) rfl ?_
                        refine ex_ic rfl (by first | omega | (constructor <;> omega) | assumption) (by first | omega | (constructor <;> omega) | assumption) (fun (h35 : ¬ x = y) => ?_) (fun (h35 : ¬ ¬ x = y) => ?_)
                        · refine ex_st 2 (pc' := 50) (ls' := [(0, xr 143), (1, xi t), (2, xi x), (3, xi y), (4, xi b)]) (st' := [xi (I 143 38)]) rfl ?_
                          rw [hc0]
                          refine ex_st 1 (pc' := 51) (ls' := [(0, xr 143), (1, xi t), (2, xi x), (3, xi y), (4, xi b)]) (st' := [xi 5, xi (↑c)]) rfl ?_
                          refine ex_ic rfl (by first | omega | (constructor <;> omega) | assumption) (by decide) (fun (h36 : ¬ (↑c : Int) = 5) => ?_) (fun (h36 : ¬ ¬ (↑c : Int) = 5) => ?_)
                          · exfalso; omega
                          · refine ex_st 1 (pc' := 56) (ls' := [(0, xr 143), (1, xi t), (2, xi x), (3, xi y), (4, xi b)]) (st' := [xi (-4)]) rfl ?_
                            refine ex_reti rfl rfl ?_
                            exact ⟨x_req (by first | rfl | omega), _, _, rfl, hR⟩
                        · exfalso; omega
                      · exfalso; omega
                · exfalso; omega
          · refine ex_st 1 (pc' := 49) (ls' := [(0, xr 0), (1, xi t), (2, xi x), (3, xi y), (4, xi b)]) (st' := [xi (-2)]) rfl ?_
            refine ex_reti rfl rfl ?_
            refine x_CQ.of (M := xM_m_see) rfl (Nat.le_of_ble_eq_true rfl) ?_
            refine ex_st 2 (pc' := 2) (ls' := [(0, xr 143), (1, xi t), (2, xi x), (3, xi y), (4, xi b)]) (st' := [xi (-1), xi t]) rfl ?_
            refine ex_ic rfl (by first | omega | (constructor <;> omega) | assumption) (by decide) (fun (h37 : ¬ t = (-1)) => ?_) (fun (h37 : ¬ ¬ t = (-1)) => ?_)
            · refine ex_st 2 (pc' := 14) (ls' := [(0, xr 143), (1, xi t), (2, xi x), (3, xi y), (4, xi b)]) (st' := [xi t, xr 143]) rfl ?_
              refine ex_call (ct_m_isOfficial2 (c := I 143 0) (by first | omega | (constructor <;> omega) | assumption | ((repeat rw [x_up_far (by omega)]); first | rfl | omega | (constructor <;> omega))) (by (repeat rw [x_up_far (by omega)]); try rfl) (by first | omega | (constructor <;> omega) | assumption | ((repeat rw [x_up_far (by omega)]); first | rfl | omega | (constructor <;> omega)))) (by decide) rfl ⟨rfl, rfl, rfl⟩ ⟨Nat.le_of_ble_eq_true rfl, rfl, rfl⟩ (Nat.le_of_ble_eq_true rfl) rfl ?_
              refine ex_beq rfl (fun h38 => ?_) (fun h38 => ?_)
              · exfalso; omega
              · refine ex_st 2 (pc' := 22) (ls' := [(0, xr 143), (1, xi t), (2, xi x), (3, xi y), (4, xi b)]) (st' := [xi x, xr 143]) rfl ?_
                refine ex_call (ct_m_isThing (by first | omega | (constructor <;> omega) | assumption)) (by decide) rfl ⟨rfl, rfl, rfl⟩ ⟨Nat.le_of_ble_eq_true rfl, rfl, rfl⟩ (Nat.le_of_ble_eq_true rfl) rfl ?_
                refine ex_beq rfl (fun h39 => ?_) (fun h39 => ?_)
                · exfalso; omega
                · refine ex_st 2 (pc' := 30) (ls' := [(0, xr 143), (1, xi t), (2, xi x), (3, xi y), (4, xi b)]) (st' := [xi y, xr 143]) rfl ?_
                  refine ex_call (ct_m_isThing (by first | omega | (constructor <;> omega) | assumption)) (by decide) rfl ⟨rfl, rfl, rfl⟩ ⟨Nat.le_of_ble_eq_true rfl, rfl, rfl⟩ (Nat.le_of_ble_eq_true rfl) rfl ?_
                  refine ex_bne rfl (fun h40 => ?_) (fun h40 => ?_)
                  · refine ex_st 2 (pc' := 40) (ls' := [(0, xr 143), (1, xi t), (2, xi x), (3, xi y), (4, xi b)]) (st' := [xi y, xi x]) rfl ?_
                    refine ex_ic rfl (by first | omega | (constructor <;> omega) | assumption) (by first | omega | (constructor <;> omega) | assumption) (fun (h41 : ¬ x = y) => ?_) (fun (h41 : ¬ ¬ x = y) => ?_)
                    · exfalso; omega
                    · refine ex_st 1 (pc' := 45) (ls' := [(0, xr 143), (1, xi t), (2, xi x), (3, xi y), (4, xi b)]) (st' := [xi (-2)]) rfl ?_
                      refine ex_reti rfl rfl ?_
                      exact ⟨x_req (by first | rfl | omega), _, _, rfl, hR⟩
                  · exfalso; omega
            · exfalso; omega
        · refine ex_st 1 (pc' := 41) (ls' := [(0, xr 0), (1, xi t), (2, xi x), (3, xi y), (4, xi b)]) (st' := [xi (-1)]) rfl ?_
          refine ex_reti rfl rfl ?_
          refine x_CQ.of (M := xM_m_see) rfl (Nat.le_of_ble_eq_true rfl) ?_
          refine ex_st 2 (pc' := 2) (ls' := [(0, xr 143), (1, xi t), (2, xi x), (3, xi y), (4, xi b)]) (st' := [xi (-1), xi t]) rfl ?_
          refine ex_ic rfl (by first | omega | (constructor <;> omega) | assumption) (by decide) (fun (h42 : ¬ t = (-1)) => ?_) (fun (h42 : ¬ ¬ t = (-1)) => ?_)
          · refine ex_st 2 (pc' := 14) (ls' := [(0, xr 143), (1, xi t), (2, xi x), (3, xi y), (4, xi b)]) (st' := [xi t, xr 143]) rfl ?_
            refine ex_call (ct_m_isOfficial2 (c := I 143 0) (by first | omega | (constructor <;> omega) | assumption | ((repeat rw [x_up_far (by omega)]); first | rfl | omega | (constructor <;> omega))) (by (repeat rw [x_up_far (by omega)]); try rfl) (by first | omega | (constructor <;> omega) | assumption | ((repeat rw [x_up_far (by omega)]); first | rfl | omega | (constructor <;> omega)))) (by decide) rfl ⟨rfl, rfl, rfl⟩ ⟨Nat.le_of_ble_eq_true rfl, rfl, rfl⟩ (Nat.le_of_ble_eq_true rfl) rfl ?_
            refine ex_beq rfl (fun h43 => ?_) (fun h43 => ?_)
            · exfalso; omega
            · refine ex_st 2 (pc' := 22) (ls' := [(0, xr 143), (1, xi t), (2, xi x), (3, xi y), (4, xi b)]) (st' := [xi x, xr 143]) rfl ?_
              refine ex_call (ct_m_isThing (by first | omega | (constructor <;> omega) | assumption)) (by decide) rfl ⟨rfl, rfl, rfl⟩ ⟨Nat.le_of_ble_eq_true rfl, rfl, rfl⟩ (Nat.le_of_ble_eq_true rfl) rfl ?_
              refine ex_beq rfl (fun h44 => ?_) (fun h44 => ?_)
              · exfalso; omega
              · refine ex_st 2 (pc' := 30) (ls' := [(0, xr 143), (1, xi t), (2, xi x), (3, xi y), (4, xi b)]) (st' := [xi y, xr 143]) rfl ?_
                refine ex_call (ct_m_isThing (by first | omega | (constructor <;> omega) | assumption)) (by decide) rfl ⟨rfl, rfl, rfl⟩ ⟨Nat.le_of_ble_eq_true rfl, rfl, rfl⟩ (Nat.le_of_ble_eq_true rfl) rfl ?_
                refine ex_bne rfl (fun h45 => ?_) (fun h45 => ?_)
                · exfalso; omega
                · refine ex_st 1 (pc' := 37) (ls' := [(0, xr 143), (1, xi t), (2, xi x), (3, xi y), (4, xi b)]) (st' := [xi (-1)]) rfl ?_
                  refine ex_reti rfl rfl ?_
                  exact ⟨x_req (by first | rfl | omega), _, _, rfl, hR⟩
          · exfalso; omega
  · refine ex_st 4 (pc' := 13) (ls' := [(0, xr 0), (1, xi t), (2, xi x), (3, xi y), (4, xi b)]) (st' := [xi 0, xr 5]) rfl ?_
    refine ex_pfi rfl (by decide) (rfl : xSH[5]? = some _) (by decide) rfl (by decide) (fun h => by cases h) ?_
    refine ex_st 1 (pc' := 17) (ls' := [(0, xr 0), (1, xi t), (2, xi x), (3, xi y), (4, xi b)]) (st' := [xi 0]) rfl ?_
    refine ex_reti rfl rfl ?_
    refine x_CQ.of (M := xM_m_see) rfl (Nat.le_of_ble_eq_true rfl) ?_
    refine ex_st 2 (pc' := 2) (ls' := [(0, xr 143), (1, xi t), (2, xi x), (3, xi y), (4, xi b)]) (st' := [xi (-1), xi t]) rfl ?_
    refine ex_ic rfl (by first | omega | (constructor <;> omega) | assumption) (by decide) (fun (h46 : ¬ t = (-1)) => ?_) (fun (h46 : ¬ ¬ t = (-1)) => ?_)
    · exfalso; omega
    · refine ex_st 2 (pc' := 7) (ls' := [(0, xr 143), (1, xi t), (2, xi x), (3, xi y), (4, xi b)]) (st' := [xi 0, xr 143]) rfl ?_
      refine ex_pfi rfl (by decide) (rfl : xSH[143]? = some _) (by decide) rfl (by decide) (fun h => by cases h) ?_
      refine ex_st 1 (pc' := 11) (ls' := [(0, xr 143), (1, xi t), (2, xi x), (3, xi y), (4, xi b)]) (st' := [xi 0]) rfl ?_
      refine ex_reti rfl rfl ?_
      refine ⟨x_req (by first | rfl | omega), ?_⟩
      refine ⟨_, _, rfl, ?_⟩
      generalize hM : (x_up (x_up I 5 2 0) 143 38 0) = I2
      have hF : ∀ k j, ¬ ((k = 143 ∧ j = 38) ∨ (k = 5 ∧ j = 2)) → I2 k j = I k j := by intro k j hk; rw [← hM]; (repeat rw [x_up_far (by omega)])
      have hw0 : I2 143 38 = 0 := by rw [← hM]; (repeat (first | rw [x_up_far (by omega)] | rw [x_up_at2 (by omega) (by omega)]))
      have hw1 : I2 5 2 = 0 := by rw [← hM]; (repeat (first | rw [x_up_far (by omega)] | rw [x_up_at2 (by omega) (by omega)]))
      clear hM
      have hI2 : RIw I2 := by
        obtain ⟨gs, go, ga, gb, gr, gd, gg, ge, gp, gk⟩ := id hI
        exact ⟨gs.fr ⟨by (repeat rw [hF _ _ (by omega)]); try rfl, by (repeat rw [hF _ _ (by omega)]); try rfl, by (repeat rw [hF _ _ (by omega)]); try rfl, by (repeat rw [hF _ _ (by omega)]); try rfl, by (repeat rw [hF _ _ (by omega)]); try rfl, by (repeat rw [hF _ _ (by omega)]); try rfl, by (repeat rw [hF _ _ (by omega)]); try rfl, by (repeat rw [hF _ _ (by omega)]); try rfl, by (repeat rw [hF _ _ (by omega)]); try rfl⟩, go.fr (by intros; (repeat rw [hF _ _ (by omega)]); try rfl) (by intros; (repeat rw [hF _ _ (by omega)]); try rfl), ga.fr (by intros; (repeat rw [hF _ _ (by omega)]); try rfl) (by (repeat rw [hF _ _ (by omega)]); try rfl), gb.fr (by intros; (repeat rw [hF _ _ (by omega)]); try rfl) (by intros; (repeat rw [hF _ _ (by omega)]); try rfl), gr.fr (by intros; (repeat rw [hF _ _ (by omega)]); try rfl) (by intros; (repeat rw [hF _ _ (by omega)]); try rfl), gd.fr (by intros; (repeat rw [hF _ _ (by omega)]); try rfl) (by intros; (repeat rw [hF _ _ (by omega)]); try rfl) (by (repeat rw [hF _ _ (by omega)]); try rfl), gg.fr ⟨by (repeat rw [hF _ _ (by omega)]); try rfl, by (repeat rw [hF _ _ (by omega)]); try rfl⟩ (by intros; (repeat rw [hF _ _ (by omega)]); try rfl) (by intros; (repeat rw [hF _ _ (by omega)]); try rfl), ge.fr ⟨by (repeat rw [hF _ _ (by omega)]); try rfl, by (repeat rw [hF _ _ (by omega)]); try rfl, by (repeat rw [hF _ _ (by omega)]); try rfl⟩ (by intros; (repeat rw [hF _ _ (by omega)]); try rfl) (by intros; (repeat rw [hF _ _ (by omega)]); try rfl), gp.fr ⟨by (repeat rw [hF _ _ (by omega)]); try rfl, by (repeat rw [hF _ _ (by omega)]); try rfl, by (repeat rw [hF _ _ (by omega)]); try rfl⟩ (by intros; (repeat rw [hF _ _ (by omega)]); try rfl) (by intros; (repeat rw [hF _ _ (by omega)]); try rfl), gk.fr ⟨by (repeat rw [hF _ _ (by omega)]); try rfl, by (repeat rw [hF _ _ (by omega)]); try rfl, by (repeat rw [hF _ _ (by omega)]); try rfl⟩ (by intros; (repeat rw [hF _ _ (by omega)]); try rfl) (by intros; (repeat rw [hF _ _ (by omega)]); try rfl)⟩
      refine ⟨⟨hNs.fr ⟨by (repeat rw [hF _ _ (by omega)]); try rfl, by (repeat rw [hF _ _ (by omega)]); try rfl, by (repeat rw [hF _ _ (by omega)]); try rfl, by (repeat rw [hF _ _ (by omega)]); try rfl, by (repeat rw [hF _ _ (by omega)]); try rfl, by (repeat rw [hF _ _ (by omega)]); try rfl, by (repeat rw [hF _ _ (by omega)]); try rfl, by (repeat rw [hF _ _ (by omega)]); try rfl, by (repeat rw [hF _ _ (by omega)]); try rfl⟩, hNo.fr (by intros; (repeat rw [hF _ _ (by omega)]); try rfl) (by intros; (repeat rw [hF _ _ (by omega)]); try rfl), hNa.fr (by intros; (repeat rw [hF _ _ (by omega)]); try rfl) (by (repeat rw [hF _ _ (by omega)]); try rfl), hNb.fr (by intros; (repeat rw [hF _ _ (by omega)]); try rfl) (by intros; (repeat rw [hF _ _ (by omega)]); try rfl), hNr.fr (by intros; (repeat rw [hF _ _ (by omega)]); try rfl) (by intros; (repeat rw [hF _ _ (by omega)]); try rfl), hNd.fr (by intros; (repeat rw [hF _ _ (by omega)]); try rfl) (by intros; (repeat rw [hF _ _ (by omega)]); try rfl) (by (repeat rw [hF _ _ (by omega)]); try rfl), hNg.fr ⟨by (repeat rw [hF _ _ (by omega)]); try rfl, by (repeat rw [hF _ _ (by omega)]); try rfl⟩ (by intros; (repeat rw [hF _ _ (by omega)]); try rfl) (by intros; (repeat rw [hF _ _ (by omega)]); try rfl), ?_, hNp.fr ⟨by (repeat rw [hF _ _ (by omega)]); try rfl, by (repeat rw [hF _ _ (by omega)]); try rfl, by (repeat rw [hF _ _ (by omega)]); try rfl⟩ (by intros; (repeat rw [hF _ _ (by omega)]); try rfl) (by intros; (repeat rw [hF _ _ (by omega)]); try rfl), hNk.fr ⟨by (repeat rw [hF _ _ (by omega)]); try rfl, by (repeat rw [hF _ _ (by omega)]); try rfl, by (repeat rw [hF _ _ (by omega)]); try rfl⟩ (by intros; (repeat rw [hF _ _ (by omega)]); try rfl) (by intros; (repeat rw [hF _ _ (by omega)]); try rfl)⟩, hI2, hT.fr ⟨by (repeat rw [hF _ _ (by omega)]); try rfl, by (repeat rw [hF _ _ (by omega)]); try rfl⟩ (by intros; (repeat rw [hF _ _ (by omega)]); try rfl) (by intros; (repeat rw [hF _ _ (by omega)]); try rfl) (by intros; (repeat rw [hF _ _ (by omega)]); try rfl), hX.fr ⟨by (repeat rw [hF _ _ (by omega)]); try rfl, by (repeat rw [hF _ _ (by omega)]); try rfl⟩ (by intros; (repeat rw [hF _ _ (by omega)]); try rfl), hC.fr ⟨by (repeat rw [hF _ _ (by omega)]); try rfl, by (repeat rw [hF _ _ (by omega)]); try rfl⟩ (by intros; (repeat rw [hF _ _ (by omega)]); try rfl), hH.fr ⟨by (repeat rw [hF _ _ (by omega)]); try rfl, by (repeat rw [hF _ _ (by omega)]); try rfl, by (repeat rw [hF _ _ (by omega)]); try rfl⟩ (by intros; (repeat rw [hF _ _ (by omega)]); try rfl) (by intros; (repeat rw [hF _ _ (by omega)]); try rfl), hQ.fr (by intros; (repeat rw [hF _ _ (by omega)]); try rfl) (by intros; (repeat rw [hF _ _ (by omega)]); try rfl) (by intros; (repeat rw [hF _ _ (by omega)]); try rfl) (by intros; (repeat rw [hF _ _ (by omega)]); try rfl)⟩
      · refine ⟨by (repeat (first | rw [hw0] | rw [hw1] | rw [hF _ _ (by omega)])); try omega, by (repeat (first | rw [hw0] | rw [hw1] | rw [hF _ _ (by omega)])); omega, by (repeat (first | rw [hw0] | rw [hw1] | rw [hF _ _ (by omega)])); omega, by (repeat (first | rw [hw0] | rw [hw1] | rw [hF _ _ (by omega)])); try exact hz4, fun x hx => ?_⟩
        exfalso; rw [hw0] at hx; omega
theorem op_book {sc : List Int} {I : Nat → Nat → Int} {L : Nat → Nat → Int64} (hR : Rl I L) {t x y : Int} (ht : x_R t) (hx : x_R x) (hy : x_R y) : x_PQ sc xN_G_book [xr 0, xi t, xi x, xi y] xN_m_book [xr 143, xi t, xi x, xi y] (xSH, I, L) := by
  obtain ⟨⟨hNs, hNo, hNa, hNb, hNr, hNd, hNg, hNe, hNp, hNk⟩, hI, hT, hX, hC, hH, hQ⟩ := id hR
  have hs := hNs
  unfold RNs at hs
  obtain ⟨hz1, hz2, hz3, hz4, hz5⟩ := id hNk
  obtain ⟨c, hc0⟩ := Int.eq_ofNat_of_zero_le hz2
  have hc1 : I 9 2 = (c : Int) := by omega
  refine x_CQ.of (M := xM_G_book) rfl (Nat.le_of_ble_eq_true rfl) ?_
  refine ex_st 2 (pc' := 2) (ls' := [(0, xr 0), (1, xi t), (2, xi x), (3, xi y)]) (st' := [xi (-1), xi t]) rfl ?_
  refine ex_ic rfl (by first | omega | (constructor <;> omega) | assumption) (by decide) (fun (h0 : ¬ t = (-1)) => ?_) (fun (h0 : ¬ ¬ t = (-1)) => ?_)
  · refine ex_st 2 (pc' := 20) (ls' := [(0, xr 0), (1, xi t), (2, xi x), (3, xi y)]) (st' := [xi t, xr 0]) rfl ?_
    refine ex_call (ct_G_isOfficial2 (c := I 1 1) (by first | omega | (constructor <;> omega) | assumption | ((repeat rw [x_up_far (by omega)]); first | rfl | omega | (constructor <;> omega))) (by (repeat rw [x_up_far (by omega)]); try rfl) (by first | omega | (constructor <;> omega) | assumption | ((repeat rw [x_up_far (by omega)]); first | rfl | omega | (constructor <;> omega)))) (by decide) rfl ⟨rfl, rfl, rfl⟩ ⟨Nat.le_of_ble_eq_true rfl, rfl, rfl⟩ (Nat.le_of_ble_eq_true rfl) rfl ?_
    refine ex_beq rfl (fun h1 => ?_) (fun h1 => ?_)
    · refine ex_st 1 (pc' := 34) (ls' := [(0, xr 0), (1, xi t), (2, xi x), (3, xi y)]) (st' := [xi (-1)]) rfl ?_
      refine ex_reti rfl rfl ?_
      refine x_CQ.of (M := xM_m_book) rfl (Nat.le_of_ble_eq_true rfl) ?_
      refine ex_st 2 (pc' := 2) (ls' := [(0, xr 143), (1, xi t), (2, xi x), (3, xi y)]) (st' := [xi (-1), xi t]) rfl ?_
      refine ex_ic rfl (by first | omega | (constructor <;> omega) | assumption) (by decide) (fun (h2 : ¬ t = (-1)) => ?_) (fun (h2 : ¬ ¬ t = (-1)) => ?_)
      · refine ex_st 2 (pc' := 14) (ls' := [(0, xr 143), (1, xi t), (2, xi x), (3, xi y)]) (st' := [xi t, xr 143]) rfl ?_
        refine ex_call (ct_m_isOfficial2 (c := I 143 0) (by first | omega | (constructor <;> omega) | assumption | ((repeat rw [x_up_far (by omega)]); first | rfl | omega | (constructor <;> omega))) (by (repeat rw [x_up_far (by omega)]); try rfl) (by first | omega | (constructor <;> omega) | assumption | ((repeat rw [x_up_far (by omega)]); first | rfl | omega | (constructor <;> omega)))) (by decide) rfl ⟨rfl, rfl, rfl⟩ ⟨Nat.le_of_ble_eq_true rfl, rfl, rfl⟩ (Nat.le_of_ble_eq_true rfl) rfl ?_
        refine ex_beq rfl (fun h3 => ?_) (fun h3 => ?_)
        · refine ex_st 1 (pc' := 29) (ls' := [(0, xr 143), (1, xi t), (2, xi x), (3, xi y)]) (st' := [xi (-1)]) rfl ?_
          refine ex_reti rfl rfl ?_
          exact ⟨x_req (by first | rfl | omega), _, _, rfl, hR⟩
        · exfalso; omega
      · exfalso; omega
    · refine ex_st 1 (pc' := 27) (ls' := [(0, xr 0), (1, xi t), (2, xi x), (3, xi y)]) (st' := [xi x]) rfl ?_
      refine ex_call (ct_G_isThing (by first | omega | (constructor <;> omega) | assumption)) (by decide) rfl ⟨rfl, rfl, rfl⟩ ⟨Nat.le_of_ble_eq_true rfl, rfl, rfl⟩ (Nat.le_of_ble_eq_true rfl) rfl ?_
      refine ex_bne rfl (fun h4 => ?_) (fun h4 => ?_)
      · refine ex_st 1 (pc' := 36) (ls' := [(0, xr 0), (1, xi t), (2, xi x), (3, xi y)]) (st' := [xi y]) rfl ?_
        refine ex_call (ct_G_isDigit (by first | omega | (constructor <;> omega) | assumption)) (by decide) rfl ⟨rfl, rfl, rfl⟩ ⟨Nat.le_of_ble_eq_true rfl, rfl, rfl⟩ (Nat.le_of_ble_eq_true rfl) rfl ?_
        refine ex_bne rfl (fun h5 => ?_) (fun h5 => ?_)
        · refine ex_st 7 (pc' := 56) (ls' := [(0, xr 0), (1, xi t), (2, xi x), (3, xi y)]) (st' := [xi 0, xi y, xi x, xi t, xr 9]) rfl ?_
          refine ex_inl (M' := xM_Rw_add) (as := [xr 9, xi t, xi x, xi y, xi 0]) (rest := []) (D' := 28) rfl (Nat.le_of_ble_eq_true rfl) (by decide) rfl ⟨rfl, rfl, rfl⟩ ⟨Nat.le_of_ble_eq_true rfl, rfl, rfl⟩ (Nat.le_of_ble_eq_true rfl) rfl ?_
          refine ex_st 2 (pc' := 4) (ls' := [(0, xr 9), (1, xi t), (2, xi x), (3, xi y), (4, xi 0)]) (st' := [xi (I 9 2)]) rfl ?_
          rw [hc1]
          refine ex_st 2 (pc' := 8) (ls' := [(0, xr 9), (1, xi t), (2, xi x), (3, xi y), (4, xi 0)]) (st' := [xi (I 9 0), xi (↑c)]) rfl ?_
          rw [hz4]
          refine ex_ic rfl (by first | omega | (constructor <;> omega) | assumption) (by decide) (fun (h6 : (↑c : Int) < 8) => ?_) (fun (h6 : ¬ (↑c : Int) < 8) => ?_)
          · refine ex_st 4 (pc' := 21) (ls' := [(0, xr 9), (1, xi t), (2, xi x), (3, xi y), (4, xi 0)]) (st' := [xi (I 9 2), xr 10]) rfl ?_
            rw [hc1]
            refine ex_st 3 (pc' := 24) (ls' := [(0, xr 9), (1, xi t), (2, xi x), (3, xi y), (4, xi 0)]) (st' := [xi t, xi ((↑c) * 4), xr 10]) rfl ?_
            refine ex_iast (j := ((c) * 4)) rfl (by decide) (rfl : xSH[10]? = some _) (by omega) (by omega) (by decide) ?_
            refine ex_st 4 (pc' := 33) (ls' := [(0, xr 9), (1, xi t), (2, xi x), (3, xi y), (4, xi 0)]) (st' := [xi ((x_up I 10 ((c) * 4) t) 9 2), xr 10]) rfl ?_
            rw [(x_up_far (by first | decide | omega) : (x_up I 10 ((c) * 4) t) 9 2 = I 9 2)]
            rw [hc1]
            refine ex_st 5 (pc' := 38) (ls' := [(0, xr 9), (1, xi t), (2, xi x), (3, xi y), (4, xi 0)]) (st' := [xi x, xi (((↑c) * 4) + 1), xr 10]) rfl ?_
            refine ex_iast (j := (((c) * 4) + 1)) rfl (by decide) (rfl : xSH[10]? = some _) (by omega) (by omega) (by decide) ?_
            refine ex_st 4 (pc' := 47) (ls' := [(0, xr 9), (1, xi t), (2, xi x), (3, xi y), (4, xi 0)]) (st' := [xi ((x_up (x_up I 10 ((c) * 4) t) 10 (((c) * 4) + 1) x) 9 2), xr 10]) rfl ?_
            rw [(x_up_far (by first | decide | omega) : (x_up (x_up I 10 ((c) * 4) t) 10 (((c) * 4) + 1) x) 9 2 = (x_up I 10 ((c) * 4) t) 9 2)]
            rw [(x_up_far (by first | decide | omega) : (x_up I 10 ((c) * 4) t) 9 2 = I 9 2)]
            rw [hc1]
            refine ex_st 5 (pc' := 52) (ls' := [(0, xr 9), (1, xi t), (2, xi x), (3, xi y), (4, xi 0)]) (st' := [xi y, xi (((↑c) * 4) + 2), xr 10]) rfl ?_
            refine ex_iast (j := (((c) * 4) + 2)) rfl (by decide) (rfl : xSH[10]? = some _) (by omega) (by omega) (by decide) ?_
            refine ex_st 4 (pc' := 61) (ls' := [(0, xr 9), (1, xi t), (2, xi x), (3, xi y), (4, xi 0)]) (st' := [xi ((x_up (x_up (x_up I 10 ((c) * 4) t) 10 (((c) * 4) + 1) x) 10 (((c) * 4) + 2) y) 9 2), xr 10]) rfl ?_
            rw [(x_up_far (by first | decide | omega) : (x_up (x_up (x_up I 10 ((c) * 4) t) 10 (((c) * 4) + 1) x) 10 (((c) * 4) + 2) y) 9 2 = (x_up (x_up I 10 ((c) * 4) t) 10 (((c) * 4) + 1) x) 9 2)]
            rw [(x_up_far (by first | decide | omega) : (x_up (x_up I 10 ((c) * 4) t) 10 (((c) * 4) + 1) x) 9 2 = (x_up I 10 ((c) * 4) t) 9 2)]
            rw [(x_up_far (by first | decide | omega) : (x_up I 10 ((c) * 4) t) 9 2 = I 9 2)]
            rw [hc1]
            refine ex_st 5 (pc' := 67) (ls' := [(0, xr 9), (1, xi t), (2, xi x), (3, xi y), (4, xi 0)]) (st' := [xi 0, xi (((↑c) * 4) + 3), xr 10]) rfl ?_
            refine ex_iast (j := (((c) * 4) + 3)) rfl (by decide) (rfl : xSH[10]? = some _) (by omega) (by omega) (by decide) ?_
            refine ex_st 3 (pc' := 73) (ls' := [(0, xr 9), (1, xi t), (2, xi x), (3, xi y), (4, xi 0)]) (st' := [xi ((x_up (x_up (x_up (x_up I 10 ((c) * 4) t) 10 (((c) * 4) + 1) x) 10 (((c) * 4) + 2) y) 10 (((c) * 4) + 3) 0) 9 2), xr 9]) rfl ?_
            rw [(x_up_far (by first | decide | omega) : (x_up (x_up (x_up (x_up I 10 ((c) * 4) t) 10 (((c) * 4) + 1) x) 10 (((c) * 4) + 2) y) 10 (((c) * 4) + 3) 0) 9 2 = (x_up (x_up (x_up I 10 ((c) * 4) t) 10 (((c) * 4) + 1) x) 10 (((c) * 4) + 2) y) 9 2)]
            rw [(x_up_far (by first | decide | omega) : (x_up (x_up (x_up I 10 ((c) * 4) t) 10 (((c) * 4) + 1) x) 10 (((c) * 4) + 2) y) 9 2 = (x_up (x_up I 10 ((c) * 4) t) 10 (((c) * 4) + 1) x) 9 2)]
            rw [(x_up_far (by first | decide | omega) : (x_up (x_up I 10 ((c) * 4) t) 10 (((c) * 4) + 1) x) 9 2 = (x_up I 10 ((c) * 4) t) 9 2)]
            rw [(x_up_far (by first | decide | omega) : (x_up I 10 ((c) * 4) t) 9 2 = I 9 2)]
            rw [hc1]
            refine ex_st 2 (pc' := 75) (ls' := [(0, xr 9), (1, xi t), (2, xi x), (3, xi y), (4, xi 0)]) (st' := [xi ((↑c) + 1), xr 9]) rfl ?_
            refine ex_pfi rfl (by decide) (rfl : xSH[9]? = some _) (by decide) rfl (by decide) (fun h => by cases h) ?_
            refine ex_st 1 (pc' := 79) (ls' := [(0, xr 9), (1, xi t), (2, xi x), (3, xi y), (4, xi 0)]) (st' := [xi 1]) rfl ?_
            refine ex_retz rfl (Or.inr rfl) rfl ?_
            refine ex_st 1 (pc' := 62) (ls' := [(0, xr 0), (1, xi t), (2, xi x), (3, xi y)]) (st' := []) rfl ?_
            refine ex_st 4 (pc' := 72) (ls' := [(0, xr 0), (1, xi t), (2, xi x), (3, xi y)]) (st' := [xi ((x_up (x_up (x_up (x_up (x_up I 10 ((c) * 4) t) 10 (((c) * 4) + 1) x) 10 (((c) * 4) + 2) y) 10 (((c) * 4) + 3) 0) 9 2 ((↑c) + 1)) 9 2)]) rfl ?_
            rw [x_up_at (x_up (x_up (x_up (x_up I 10 ((c) * 4) t) 10 (((c) * 4) + 1) x) 10 (((c) * 4) + 2) y) 10 (((c) * 4) + 3) 0) 9 2 ((↑c) + 1)]
            refine ex_st 1 (pc' := 77) (ls' := [(0, xr 0), (1, xi t), (2, xi x), (3, xi y)]) (st' := [xi ((↑c) + 1)]) rfl ?_
            refine ex_reti rfl rfl ?_
            refine x_CQ.of (M := xM_m_book) rfl (Nat.le_of_ble_eq_true rfl) ?_
            refine ex_st 2 (pc' := 2) (ls' := [(0, xr 143), (1, xi t), (2, xi x), (3, xi y)]) (st' := [xi (-1), xi t]) rfl ?_
            refine ex_ic rfl (by first | omega | (constructor <;> omega) | assumption) (by decide) (fun (h7 : ¬ t = (-1)) => ?_) (fun (h7 : ¬ ¬ t = (-1)) => ?_)
            · refine ex_st 2 (pc' := 14) (ls' := [(0, xr 143), (1, xi t), (2, xi x), (3, xi y)]) (st' := [xi t, xr 143]) rfl ?_
              refine ex_call (ct_m_isOfficial2 (c := I 143 0) (by first | omega | (constructor <;> omega) | assumption | ((repeat rw [x_up_far (by omega)]); first | rfl | omega | (constructor <;> omega))) (by (repeat rw [x_up_far (by omega)]); try rfl) (by first | omega | (constructor <;> omega) | assumption | ((repeat rw [x_up_far (by omega)]); first | rfl | omega | (constructor <;> omega)))) (by decide) rfl ⟨rfl, rfl, rfl⟩ ⟨Nat.le_of_ble_eq_true rfl, rfl, rfl⟩ (Nat.le_of_ble_eq_true rfl) rfl ?_
              refine ex_beq rfl (fun h8 => ?_) (fun h8 => ?_)
              · exfalso; omega
              · refine ex_st 2 (pc' := 22) (ls' := [(0, xr 143), (1, xi t), (2, xi x), (3, xi y)]) (st' := [xi x, xr 143]) rfl ?_
                refine ex_call (ct_m_isThing (by first | omega | (constructor <;> omega) | assumption)) (by decide) rfl ⟨rfl, rfl, rfl⟩ ⟨Nat.le_of_ble_eq_true rfl, rfl, rfl⟩ (Nat.le_of_ble_eq_true rfl) rfl ?_
                refine ex_bne rfl (fun h9 => ?_) (fun h9 => ?_)
                · refine ex_st 2 (pc' := 32) (ls' := [(0, xr 143), (1, xi t), (2, xi x), (3, xi y)]) (st' := [xi y, xr 143]) rfl ?_
                  refine ex_call (ct_m_isDigitNumber (by first | omega | (constructor <;> omega) | assumption)) (by decide) rfl ⟨rfl, rfl, rfl⟩ ⟨Nat.le_of_ble_eq_true rfl, rfl, rfl⟩ (Nat.le_of_ble_eq_true rfl) rfl ?_
                  refine ex_bne rfl (fun h10 => ?_) (fun h10 => ?_)
                  · refine ex_st 2 (pc' := 45) (ls' := [(0, xr 143), (1, xi t), (2, xi x), (3, xi y)]) (st' := [xi ((x_up (x_up (x_up (x_up (x_up I 10 ((c) * 4) t) 10 (((c) * 4) + 1) x) 10 (((c) * 4) + 2) y) 10 (((c) * 4) + 3) 0) 9 2 ((↑c) + 1)) 143 44)]) rfl ?_
                    rw [(x_up_far (by first | decide | omega) : (x_up (x_up (x_up (x_up (x_up I 10 ((c) * 4) t) 10 (((c) * 4) + 1) x) 10 (((c) * 4) + 2) y) 10 (((c) * 4) + 3) 0) 9 2 ((↑c) + 1)) 143 44 = (x_up (x_up (x_up (x_up I 10 ((c) * 4) t) 10 (((c) * 4) + 1) x) 10 (((c) * 4) + 2) y) 10 (((c) * 4) + 3) 0) 143 44)]
                    rw [(x_up_far (by first | decide | omega) : (x_up (x_up (x_up (x_up I 10 ((c) * 4) t) 10 (((c) * 4) + 1) x) 10 (((c) * 4) + 2) y) 10 (((c) * 4) + 3) 0) 143 44 = (x_up (x_up (x_up I 10 ((c) * 4) t) 10 (((c) * 4) + 1) x) 10 (((c) * 4) + 2) y) 143 44)]
                    rw [(x_up_far (by first | decide | omega) : (x_up (x_up (x_up I 10 ((c) * 4) t) 10 (((c) * 4) + 1) x) 10 (((c) * 4) + 2) y) 143 44 = (x_up (x_up I 10 ((c) * 4) t) 10 (((c) * 4) + 1) x) 143 44)]
                    rw [(x_up_far (by first | decide | omega) : (x_up (x_up I 10 ((c) * 4) t) 10 (((c) * 4) + 1) x) 143 44 = (x_up I 10 ((c) * 4) t) 143 44)]
                    rw [(x_up_far (by first | decide | omega) : (x_up I 10 ((c) * 4) t) 143 44 = I 143 44)]
                    rw [hc0]
                    refine ex_st 1 (pc' := 47) (ls' := [(0, xr 143), (1, xi t), (2, xi x), (3, xi y)]) (st' := [xi 8, xi (↑c)]) rfl ?_
                    refine ex_ic rfl (by first | omega | (constructor <;> omega) | assumption) (by decide) (fun (h11 : ¬ (↑c : Int) = 8) => ?_) (fun (h11 : ¬ ¬ (↑c : Int) = 8) => ?_)
                    · refine ex_st 4 (pc' := 61) (ls' := [(0, xr 143), (1, xi t), (2, xi x), (3, xi y)]) (st' := [xi ((x_up (x_up (x_up (x_up (x_up I 10 ((c) * 4) t) 10 (((c) * 4) + 1) x) 10 (((c) * 4) + 2) y) 10 (((c) * 4) + 3) 0) 9 2 ((↑c) + 1)) 143 44), xr 171]) rfl ?_
                      rw [(x_up_far (by first | decide | omega) : (x_up (x_up (x_up (x_up (x_up I 10 ((c) * 4) t) 10 (((c) * 4) + 1) x) 10 (((c) * 4) + 2) y) 10 (((c) * 4) + 3) 0) 9 2 ((↑c) + 1)) 143 44 = (x_up (x_up (x_up (x_up I 10 ((c) * 4) t) 10 (((c) * 4) + 1) x) 10 (((c) * 4) + 2) y) 10 (((c) * 4) + 3) 0) 143 44)]
                      rw [(x_up_far (by first | decide | omega) : (x_up (x_up (x_up (x_up I 10 ((c) * 4) t) 10 (((c) * 4) + 1) x) 10 (((c) * 4) + 2) y) 10 (((c) * 4) + 3) 0) 143 44 = (x_up (x_up (x_up I 10 ((c) * 4) t) 10 (((c) * 4) + 1) x) 10 (((c) * 4) + 2) y) 143 44)]
                      rw [(x_up_far (by first | decide | omega) : (x_up (x_up (x_up I 10 ((c) * 4) t) 10 (((c) * 4) + 1) x) 10 (((c) * 4) + 2) y) 143 44 = (x_up (x_up I 10 ((c) * 4) t) 10 (((c) * 4) + 1) x) 143 44)]
                      rw [(x_up_far (by first | decide | omega) : (x_up (x_up I 10 ((c) * 4) t) 10 (((c) * 4) + 1) x) 143 44 = (x_up I 10 ((c) * 4) t) 143 44)]
                      rw [(x_up_far (by first | decide | omega) : (x_up I 10 ((c) * 4) t) 143 44 = I 143 44)]
                      rw [hc0]
                      refine ex_st 1 (pc' := 62) (ls' := [(0, xr 143), (1, xi t), (2, xi x), (3, xi y)]) (st' := [xi t, xi (↑c), xr 171]) rfl ?_
                      refine ex_iast (j := c) rfl (by decide) (rfl : xSH[171]? = some _) (by omega) (by omega) (by decide) ?_
                      refine ex_st 4 (pc' := 71) (ls' := [(0, xr 143), (1, xi t), (2, xi x), (3, xi y)]) (st' := [xi ((x_up (x_up (x_up (x_up (x_up (x_up I 10 ((c) * 4) t) 10 (((c) * 4) + 1) x) 10 (((c) * 4) + 2) y) 10 (((c) * 4) + 3) 0) 9 2 ((↑c) + 1)) 171 c t) 143 44), xr 172]) rfl ?_
                      rw [(x_up_far (by first | decide | omega) : (x_up (x_up (x_up (x_up (x_up (x_up I 10 ((c) * 4) t) 10 (((c) * 4) + 1) x) 10 (((c) * 4) + 2) y) 10 (((c) * 4) + 3) 0) 9 2 ((↑c) + 1)) 171 c t) 143 44 = (x_up (x_up (x_up (x_up (x_up I 10 ((c) * 4) t) 10 (((c) * 4) + 1) x) 10 (((c) * 4) + 2) y) 10 (((c) * 4) + 3) 0) 9 2 ((↑c) + 1)) 143 44)]
                      rw [(x_up_far (by first | decide | omega) : (x_up (x_up (x_up (x_up (x_up I 10 ((c) * 4) t) 10 (((c) * 4) + 1) x) 10 (((c) * 4) + 2) y) 10 (((c) * 4) + 3) 0) 9 2 ((↑c) + 1)) 143 44 = (x_up (x_up (x_up (x_up I 10 ((c) * 4) t) 10 (((c) * 4) + 1) x) 10 (((c) * 4) + 2) y) 10 (((c) * 4) + 3) 0) 143 44)]
                      rw [(x_up_far (by first | decide | omega) : (x_up (x_up (x_up (x_up I 10 ((c) * 4) t) 10 (((c) * 4) + 1) x) 10 (((c) * 4) + 2) y) 10 (((c) * 4) + 3) 0) 143 44 = (x_up (x_up (x_up I 10 ((c) * 4) t) 10 (((c) * 4) + 1) x) 10 (((c) * 4) + 2) y) 143 44)]
                      rw [(x_up_far (by first | decide | omega) : (x_up (x_up (x_up I 10 ((c) * 4) t) 10 (((c) * 4) + 1) x) 10 (((c) * 4) + 2) y) 143 44 = (x_up (x_up I 10 ((c) * 4) t) 10 (((c) * 4) + 1) x) 143 44)]
                      rw [(x_up_far (by first | decide | omega) : (x_up (x_up I 10 ((c) * 4) t) 10 (((c) * 4) + 1) x) 143 44 = (x_up I 10 ((c) * 4) t) 143 44)]
                      rw [(x_up_far (by first | decide | omega) : (x_up I 10 ((c) * 4) t) 143 44 = I 143 44)]
                      rw [hc0]
                      refine ex_st 1 (pc' := 72) (ls' := [(0, xr 143), (1, xi t), (2, xi x), (3, xi y)]) (st' := [xi x, xi (↑c), xr 172]) rfl ?_
                      refine ex_iast (j := c) rfl (by decide) (rfl : xSH[172]? = some _) (by omega) (by omega) (by decide) ?_
                      refine ex_st 4 (pc' := 81) (ls' := [(0, xr 143), (1, xi t), (2, xi x), (3, xi y)]) (st' := [xi ((x_up (x_up (x_up (x_up (x_up (x_up (x_up I 10 ((c) * 4) t) 10 (((c) * 4) + 1) x) 10 (((c) * 4) + 2) y) 10 (((c) * 4) + 3) 0) 9 2 ((↑c) + 1)) 171 c t) 172 c x) 143 44), xr 173]) rfl ?_
                      rw [(x_up_far (by first | decide | omega) : (x_up (x_up (x_up (x_up (x_up (x_up (x_up I 10 ((c) * 4) t) 10 (((c) * 4) + 1) x) 10 (((c) * 4) + 2) y) 10 (((c) * 4) + 3) 0) 9 2 ((↑c) + 1)) 171 c t) 172 c x) 143 44 = (x_up (x_up (x_up (x_up (x_up (x_up I 10 ((c) * 4) t) 10 (((c) * 4) + 1) x) 10 (((c) * 4) + 2) y) 10 (((c) * 4) + 3) 0) 9 2 ((↑c) + 1)) 171 c t) 143 44)]
                      rw [(x_up_far (by first | decide | omega) : (x_up (x_up (x_up (x_up (x_up (x_up I 10 ((c) * 4) t) 10 (((c) * 4) + 1) x) 10 (((c) * 4) + 2) y) 10 (((c) * 4) + 3) 0) 9 2 ((↑c) + 1)) 171 c t) 143 44 = (x_up (x_up (x_up (x_up (x_up I 10 ((c) * 4) t) 10 (((c) * 4) + 1) x) 10 (((c) * 4) + 2) y) 10 (((c) * 4) + 3) 0) 9 2 ((↑c) + 1)) 143 44)]
                      rw [(x_up_far (by first | decide | omega) : (x_up (x_up (x_up (x_up (x_up I 10 ((c) * 4) t) 10 (((c) * 4) + 1) x) 10 (((c) * 4) + 2) y) 10 (((c) * 4) + 3) 0) 9 2 ((↑c) + 1)) 143 44 = (x_up (x_up (x_up (x_up I 10 ((c) * 4) t) 10 (((c) * 4) + 1) x) 10 (((c) * 4) + 2) y) 10 (((c) * 4) + 3) 0) 143 44)]
                      rw [(x_up_far (by first | decide | omega) : (x_up (x_up (x_up (x_up I 10 ((c) * 4) t) 10 (((c) * 4) + 1) x) 10 (((c) * 4) + 2) y) 10 (((c) * 4) + 3) 0) 143 44 = (x_up (x_up (x_up I 10 ((c) * 4) t) 10 (((c) * 4) + 1) x) 10 (((c) * 4) + 2) y) 143 44)]
                      rw [(x_up_far (by first | decide | omega) : (x_up (x_up (x_up I 10 ((c) * 4) t) 10 (((c) * 4) + 1) x) 10 (((c) * 4) + 2) y) 143 44 = (x_up (x_up I 10 ((c) * 4) t) 10 (((c) * 4) + 1) x) 143 44)]
                      rw [(x_up_far (by first | decide | omega) : (x_up (x_up I 10 ((c) * 4) t) 10 (((c) * 4) + 1) x) 143 44 = (x_up I 10 ((c) * 4) t) 143 44)]
                      rw [(x_up_far (by first | decide | omega) : (x_up I 10 ((c) * 4) t) 143 44 = I 143 44)]
                      rw [hc0]
                      refine ex_st 1 (pc' := 82) (ls' := [(0, xr 143), (1, xi t), (2, xi x), (3, xi y)]) (st' := [xi y, xi (↑c), xr 173]) rfl ?_
                      refine ex_iast (j := c) rfl (by decide) (rfl : xSH[173]? = some _) (by omega) (by omega) (by decide) ?_
                      refine ex_st 3 (pc' := 88) (ls' := [(0, xr 143), (1, xi t), (2, xi x), (3, xi y)]) (st' := [xi ((x_up (x_up (x_up (x_up (x_up (x_up (x_up (x_up I 10 ((c) * 4) t) 10 (((c) * 4) + 1) x) 10 (((c) * 4) + 2) y) 10 (((c) * 4) + 3) 0) 9 2 ((↑c) + 1)) 171 c t) 172 c x) 173 c y) 143 44), xr 143]) rfl ?_
                      rw [(x_up_far (by first | decide | omega) : (x_up (x_up (x_up (x_up (x_up (x_up (x_up (x_up I 10 ((c) * 4) t) 10 (((c) * 4) + 1) x) 10 (((c) * 4) + 2) y) 10 (((c) * 4) + 3) 0) 9 2 ((↑c) + 1)) 171 c t) 172 c x) 173 c y) 143 44 = (x_up (x_up (x_up (x_up (x_up (x_up (x_up I 10 ((c) * 4) t) 10 (((c) * 4) + 1) x) 10 (((c) * 4) + 2) y) 10 (((c) * 4) + 3) 0) 9 2 ((↑c) + 1)) 171 c t) 172 c x) 143 44)]
                      rw [(x_up_far (by first | decide | omega) : (x_up (x_up (x_up (x_up (x_up (x_up (x_up I 10 ((c) * 4) t) 10 (((c) * 4) + 1) x) 10 (((c) * 4) + 2) y) 10 (((c) * 4) + 3) 0) 9 2 ((↑c) + 1)) 171 c t) 172 c x) 143 44 = (x_up (x_up (x_up (x_up (x_up (x_up I 10 ((c) * 4) t) 10 (((c) * 4) + 1) x) 10 (((c) * 4) + 2) y) 10 (((c) * 4) + 3) 0) 9 2 ((↑c) + 1)) 171 c t) 143 44)]
                      rw [(x_up_far (by first | decide | omega) : (x_up (x_up (x_up (x_up (x_up (x_up I 10 ((c) * 4) t) 10 (((c) * 4) + 1) x) 10 (((c) * 4) + 2) y) 10 (((c) * 4) + 3) 0) 9 2 ((↑c) + 1)) 171 c t) 143 44 = (x_up (x_up (x_up (x_up (x_up I 10 ((c) * 4) t) 10 (((c) * 4) + 1) x) 10 (((c) * 4) + 2) y) 10 (((c) * 4) + 3) 0) 9 2 ((↑c) + 1)) 143 44)]
                      rw [(x_up_far (by first | decide | omega) : (x_up (x_up (x_up (x_up (x_up I 10 ((c) * 4) t) 10 (((c) * 4) + 1) x) 10 (((c) * 4) + 2) y) 10 (((c) * 4) + 3) 0) 9 2 ((↑c) + 1)) 143 44 = (x_up (x_up (x_up (x_up I 10 ((c) * 4) t) 10 (((c) * 4) + 1) x) 10 (((c) * 4) + 2) y) 10 (((c) * 4) + 3) 0) 143 44)]
                      rw [(x_up_far (by first | decide | omega) : (x_up (x_up (x_up (x_up I 10 ((c) * 4) t) 10 (((c) * 4) + 1) x) 10 (((c) * 4) + 2) y) 10 (((c) * 4) + 3) 0) 143 44 = (x_up (x_up (x_up I 10 ((c) * 4) t) 10 (((c) * 4) + 1) x) 10 (((c) * 4) + 2) y) 143 44)]
                      rw [(x_up_far (by first | decide | omega) : (x_up (x_up (x_up I 10 ((c) * 4) t) 10 (((c) * 4) + 1) x) 10 (((c) * 4) + 2) y) 143 44 = (x_up (x_up I 10 ((c) * 4) t) 10 (((c) * 4) + 1) x) 143 44)]
                      rw [(x_up_far (by first | decide | omega) : (x_up (x_up I 10 ((c) * 4) t) 10 (((c) * 4) + 1) x) 143 44 = (x_up I 10 ((c) * 4) t) 143 44)]
                      rw [(x_up_far (by first | decide | omega) : (x_up I 10 ((c) * 4) t) 143 44 = I 143 44)]
                      rw [hc0]
                      refine ex_st 2 (pc' := 90) (ls' := [(0, xr 143), (1, xi t), (2, xi x), (3, xi y)]) (st' := [xi ((↑c) + 1), xr 143]) rfl ?_
                      refine ex_pfi rfl (by decide) (rfl : xSH[143]? = some _) (by decide) rfl (by decide) (fun h => by cases h) ?_
                      refine ex_st 2 (pc' := 97) (ls' := [(0, xr 143), (1, xi t), (2, xi x), (3, xi y)]) (st' := [xi ((x_up (x_up (x_up (x_up (x_up (x_up (x_up (x_up (x_up I 10 ((c) * 4) t) 10 (((c) * 4) + 1) x) 10 (((c) * 4) + 2) y) 10 (((c) * 4) + 3) 0) 9 2 ((↑c) + 1)) 171 c t) 172 c x) 173 c y) 143 44 ((↑c) + 1)) 143 44)]) rfl ?_
                      rw [x_up_at (x_up (x_up (x_up (x_up (x_up (x_up (x_up (x_up I 10 ((c) * 4) t) 10 (((c) * 4) + 1) x) 10 (((c) * 4) + 2) y) 10 (((c) * 4) + 3) 0) 9 2 ((↑c) + 1)) 171 c t) 172 c x) 173 c y) 143 44 ((↑c) + 1)]
                      refine ex_reti rfl rfl ?_
                      refine ⟨x_req (by first | rfl | omega), ?_⟩
                      refine ⟨_, _, rfl, ?_⟩
                      generalize hM : (x_up (x_up (x_up (x_up (x_up (x_up (x_up (x_up (x_up I 10 ((c) * 4) t) 10 (((c) * 4) + 1) x) 10 (((c) * 4) + 2) y) 10 (((c) * 4) + 3) 0) 9 2 ((↑c) + 1)) 171 c t) 172 c x) 173 c y) 143 44 ((↑c) + 1)) = I2
                      have hF : ∀ k j, ¬ ((k = 143 ∧ j = 44) ∨ (k = 173 ∧ j = c) ∨ (k = 172 ∧ j = c) ∨ (k = 171 ∧ j = c) ∨ (k = 9 ∧ j = 2) ∨ (k = 10 ∧ j = ((c) * 4) + 3) ∨ (k = 10 ∧ j = ((c) * 4) + 2) ∨ (k = 10 ∧ j = ((c) * 4) + 1) ∨ (k = 10 ∧ j = (c) * 4)) → I2 k j = I k j := by intro k j hk; rw [← hM]; (repeat rw [x_up_far (by omega)])
                      have hw0 : I2 143 44 = ((↑c) + 1) := by rw [← hM]; (repeat (first | rw [x_up_far (by omega)] | rw [x_up_at2 (by omega) (by omega)]))
                      have hw1 : I2 173 c = y := by rw [← hM]; (repeat (first | rw [x_up_far (by omega)] | rw [x_up_at2 (by omega) (by omega)]))
                      have hw2 : I2 172 c = x := by rw [← hM]; (repeat (first | rw [x_up_far (by omega)] | rw [x_up_at2 (by omega) (by omega)]))
                      have hw3 : I2 171 c = t := by rw [← hM]; (repeat (first | rw [x_up_far (by omega)] | rw [x_up_at2 (by omega) (by omega)]))
                      have hw4 : I2 9 2 = ((↑c) + 1) := by rw [← hM]; (repeat (first | rw [x_up_far (by omega)] | rw [x_up_at2 (by omega) (by omega)]))
                      have hw5 : I2 10 (((c) * 4) + 3) = 0 := by rw [← hM]; (repeat (first | rw [x_up_far (by omega)] | rw [x_up_at2 (by omega) (by omega)]))
                      have hw6 : I2 10 (((c) * 4) + 2) = y := by rw [← hM]; (repeat (first | rw [x_up_far (by omega)] | rw [x_up_at2 (by omega) (by omega)]))
                      have hw7 : I2 10 (((c) * 4) + 1) = x := by rw [← hM]; (repeat (first | rw [x_up_far (by omega)] | rw [x_up_at2 (by omega) (by omega)]))
                      have hw8 : I2 10 ((c) * 4) = t := by rw [← hM]; (repeat (first | rw [x_up_far (by omega)] | rw [x_up_at2 (by omega) (by omega)]))
                      clear hM
                      have hI2 : RIw I2 := by
                        obtain ⟨gs, go, ga, gb, gr, gd, gg, ge, gp, gk⟩ := id hI
                        exact ⟨gs.fr ⟨by (repeat rw [hF _ _ (by omega)]); try rfl, by (repeat rw [hF _ _ (by omega)]); try rfl, by (repeat rw [hF _ _ (by omega)]); try rfl, by (repeat rw [hF _ _ (by omega)]); try rfl, by (repeat rw [hF _ _ (by omega)]); try rfl, by (repeat rw [hF _ _ (by omega)]); try rfl, by (repeat rw [hF _ _ (by omega)]); try rfl, by (repeat rw [hF _ _ (by omega)]); try rfl, by (repeat rw [hF _ _ (by omega)]); try rfl⟩, go.fr (by intros; (repeat rw [hF _ _ (by omega)]); try rfl) (by intros; (repeat rw [hF _ _ (by omega)]); try rfl), ga.fr (by intros; (repeat rw [hF _ _ (by omega)]); try rfl) (by (repeat rw [hF _ _ (by omega)]); try rfl), gb.fr (by intros; (repeat rw [hF _ _ (by omega)]); try rfl) (by intros; (repeat rw [hF _ _ (by omega)]); try rfl), gr.fr (by intros; (repeat rw [hF _ _ (by omega)]); try rfl) (by intros; (repeat rw [hF _ _ (by omega)]); try rfl), gd.fr (by intros; (repeat rw [hF _ _ (by omega)]); try rfl) (by intros; (repeat rw [hF _ _ (by omega)]); try rfl) (by (repeat rw [hF _ _ (by omega)]); try rfl), gg.fr ⟨by (repeat rw [hF _ _ (by omega)]); try rfl, by (repeat rw [hF _ _ (by omega)]); try rfl⟩ (by intros; (repeat rw [hF _ _ (by omega)]); try rfl) (by intros; (repeat rw [hF _ _ (by omega)]); try rfl), ge.fr ⟨by (repeat rw [hF _ _ (by omega)]); try rfl, by (repeat rw [hF _ _ (by omega)]); try rfl, by (repeat rw [hF _ _ (by omega)]); try rfl⟩ (by intros; (repeat rw [hF _ _ (by omega)]); try rfl) (by intros; (repeat rw [hF _ _ (by omega)]); try rfl), gp.fr ⟨by (repeat rw [hF _ _ (by omega)]); try rfl, by (repeat rw [hF _ _ (by omega)]); try rfl, by (repeat rw [hF _ _ (by omega)]); try rfl⟩ (by intros; (repeat rw [hF _ _ (by omega)]); try rfl) (by intros; (repeat rw [hF _ _ (by omega)]); try rfl), gk.fr ⟨by (repeat rw [hF _ _ (by omega)]); try rfl, by (repeat rw [hF _ _ (by omega)]); try rfl, by (repeat rw [hF _ _ (by omega)]); try rfl⟩ (by intros; (repeat rw [hF _ _ (by omega)]); try rfl) (by intros; (repeat rw [hF _ _ (by omega)]); try rfl)⟩
                      refine ⟨⟨hNs.fr ⟨by (repeat rw [hF _ _ (by omega)]); try rfl, by (repeat rw [hF _ _ (by omega)]); try rfl, by (repeat rw [hF _ _ (by omega)]); try rfl, by (repeat rw [hF _ _ (by omega)]); try rfl, by (repeat rw [hF _ _ (by omega)]); try rfl, by (repeat rw [hF _ _ (by omega)]); try rfl, by (repeat rw [hF _ _ (by omega)]); try rfl, by (repeat rw [hF _ _ (by omega)]); try rfl, by (repeat rw [hF _ _ (by omega)]); try rfl⟩, hNo.fr (by intros; (repeat rw [hF _ _ (by omega)]); try rfl) (by intros; (repeat rw [hF _ _ (by omega)]); try rfl), hNa.fr (by intros; (repeat rw [hF _ _ (by omega)]); try rfl) (by (repeat rw [hF _ _ (by omega)]); try rfl), hNb.fr (by intros; (repeat rw [hF _ _ (by omega)]); try rfl) (by intros; (repeat rw [hF _ _ (by omega)]); try rfl), hNr.fr (by intros; (repeat rw [hF _ _ (by omega)]); try rfl) (by intros; (repeat rw [hF _ _ (by omega)]); try rfl), hNd.fr (by intros; (repeat rw [hF _ _ (by omega)]); try rfl) (by intros; (repeat rw [hF _ _ (by omega)]); try rfl) (by (repeat rw [hF _ _ (by omega)]); try rfl), hNg.fr ⟨by (repeat rw [hF _ _ (by omega)]); try rfl, by (repeat rw [hF _ _ (by omega)]); try rfl⟩ (by intros; (repeat rw [hF _ _ (by omega)]); try rfl) (by intros; (repeat rw [hF _ _ (by omega)]); try rfl), hNe.fr ⟨by (repeat rw [hF _ _ (by omega)]); try rfl, by (repeat rw [hF _ _ (by omega)]); try rfl, by (repeat rw [hF _ _ (by omega)]); try rfl⟩ (by intros; (repeat rw [hF _ _ (by omega)]); try rfl) (by intros; (repeat rw [hF _ _ (by omega)]); try rfl), hNp.fr ⟨by (repeat rw [hF _ _ (by omega)]); try rfl, by (repeat rw [hF _ _ (by omega)]); try rfl, by (repeat rw [hF _ _ (by omega)]); try rfl⟩ (by intros; (repeat rw [hF _ _ (by omega)]); try rfl) (by intros; (repeat rw [hF _ _ (by omega)]); try rfl), ?_⟩, hI2, hT.fr ⟨by (repeat rw [hF _ _ (by omega)]); try rfl, by (repeat rw [hF _ _ (by omega)]); try rfl⟩ (by intros; (repeat rw [hF _ _ (by omega)]); try rfl) (by intros; (repeat rw [hF _ _ (by omega)]); try rfl) (by intros; (repeat rw [hF _ _ (by omega)]); try rfl), hX.fr ⟨by (repeat rw [hF _ _ (by omega)]); try rfl, by (repeat rw [hF _ _ (by omega)]); try rfl⟩ (by intros; (repeat rw [hF _ _ (by omega)]); try rfl), hC.fr ⟨by (repeat rw [hF _ _ (by omega)]); try rfl, by (repeat rw [hF _ _ (by omega)]); try rfl⟩ (by intros; (repeat rw [hF _ _ (by omega)]); try rfl), hH.fr ⟨by (repeat rw [hF _ _ (by omega)]); try rfl, by (repeat rw [hF _ _ (by omega)]); try rfl, by (repeat rw [hF _ _ (by omega)]); try rfl⟩ (by intros; (repeat rw [hF _ _ (by omega)]); try rfl) (by intros; (repeat rw [hF _ _ (by omega)]); try rfl), hQ.fr (by intros; (repeat rw [hF _ _ (by omega)]); try rfl) (by intros; (repeat rw [hF _ _ (by omega)]); try rfl) (by intros; (repeat rw [hF _ _ (by omega)]); try rfl) (by intros; (repeat rw [hF _ _ (by omega)]); try rfl)⟩
                      · refine ⟨by (repeat (first | rw [hw0] | rw [hw1] | rw [hw2] | rw [hw3] | rw [hw4] | rw [hw5] | rw [hw6] | rw [hw7] | rw [hw8] | rw [hF _ _ (by omega)])); try omega, by (repeat (first | rw [hw0] | rw [hw1] | rw [hw2] | rw [hw3] | rw [hw4] | rw [hw5] | rw [hw6] | rw [hw7] | rw [hw8] | rw [hF _ _ (by omega)])); omega, by (repeat (first | rw [hw0] | rw [hw1] | rw [hw2] | rw [hw3] | rw [hw4] | rw [hw5] | rw [hw6] | rw [hw7] | rw [hw8] | rw [hF _ _ (by omega)])); omega, by (repeat (first | rw [hw0] | rw [hw1] | rw [hw2] | rw [hw3] | rw [hw4] | rw [hw5] | rw [hw6] | rw [hw7] | rw [hw8] | rw [hF _ _ (by omega)])); try exact hz4, fun x hx => ?_⟩
                        rw [hw0] at hx
                        by_cases hxc : x = c
                        · subst hxc; (repeat (first | rw [hw0] | rw [hw1] | rw [hw2] | rw [hw3] | rw [hw4] | rw [hw5] | rw [hw6] | rw [hw7] | rw [hw8] | rw [hF _ _ (by omega)])); omega
                        · have h := hz5 x (by omega)
                          (repeat (first | rw [hw0] | rw [hw1] | rw [hw2] | rw [hw3] | rw [hw4] | rw [hw5] | rw [hw6] | rw [hw7] | rw [hw8] | rw [hF _ _ (by omega)]))
                          exact h
                    · exfalso; omega
                  · exfalso; omega
                · exfalso; omega
            · exfalso; omega
          · refine ex_st 1 (pc' := 12) (ls' := [(0, xr 9), (1, xi t), (2, xi x), (3, xi y), (4, xi 0)]) (st' := [xi 0]) rfl ?_
            refine ex_retz rfl (Or.inl rfl) rfl ?_
            refine ex_st 1 (pc' := 75) (ls' := [(0, xr 0), (1, xi t), (2, xi x), (3, xi y)]) (st' := []) rfl ?_
            refine ex_st 1 (pc' := 77) (ls' := [(0, xr 0), (1, xi t), (2, xi x), (3, xi y)]) (st' := [xi (-4)]) rfl ?_
            refine ex_reti rfl rfl ?_
            refine x_CQ.of (M := xM_m_book) rfl (Nat.le_of_ble_eq_true rfl) ?_
            refine ex_st 2 (pc' := 2) (ls' := [(0, xr 143), (1, xi t), (2, xi x), (3, xi y)]) (st' := [xi (-1), xi t]) rfl ?_
            refine ex_ic rfl (by first | omega | (constructor <;> omega) | assumption) (by decide) (fun (h12 : ¬ t = (-1)) => ?_) (fun (h12 : ¬ ¬ t = (-1)) => ?_)
            · refine ex_st 2 (pc' := 14) (ls' := [(0, xr 143), (1, xi t), (2, xi x), (3, xi y)]) (st' := [xi t, xr 143]) rfl ?_
              refine ex_call (ct_m_isOfficial2 (c := I 143 0) (by first | omega | (constructor <;> omega) | assumption | ((repeat rw [x_up_far (by omega)]); first | rfl | omega | (constructor <;> omega))) (by (repeat rw [x_up_far (by omega)]); try rfl) (by first | omega | (constructor <;> omega) | assumption | ((repeat rw [x_up_far (by omega)]); first | rfl | omega | (constructor <;> omega)))) (by decide) rfl ⟨rfl, rfl, rfl⟩ ⟨Nat.le_of_ble_eq_true rfl, rfl, rfl⟩ (Nat.le_of_ble_eq_true rfl) rfl ?_
              refine ex_beq rfl (fun h13 => ?_) (fun h13 => ?_)
              · exfalso; omega
              · refine ex_st 2 (pc' := 22) (ls' := [(0, xr 143), (1, xi t), (2, xi x), (3, xi y)]) (st' := [xi x, xr 143]) rfl ?_
                refine ex_call (ct_m_isThing (by first | omega | (constructor <;> omega) | assumption)) (by decide) rfl ⟨rfl, rfl, rfl⟩ ⟨Nat.le_of_ble_eq_true rfl, rfl, rfl⟩ (Nat.le_of_ble_eq_true rfl) rfl ?_
                refine ex_bne rfl (fun h14 => ?_) (fun h14 => ?_)
                · refine ex_st 2 (pc' := 32) (ls' := [(0, xr 143), (1, xi t), (2, xi x), (3, xi y)]) (st' := [xi y, xr 143]) rfl ?_
                  refine ex_call (ct_m_isDigitNumber (by first | omega | (constructor <;> omega) | assumption)) (by decide) rfl ⟨rfl, rfl, rfl⟩ ⟨Nat.le_of_ble_eq_true rfl, rfl, rfl⟩ (Nat.le_of_ble_eq_true rfl) rfl ?_
                  refine ex_bne rfl (fun h15 => ?_) (fun h15 => ?_)
                  · refine ex_st 2 (pc' := 45) (ls' := [(0, xr 143), (1, xi t), (2, xi x), (3, xi y)]) (st' := [xi (I 143 44)]) rfl ?_
                    rw [hc0]
                    refine ex_st 1 (pc' := 47) (ls' := [(0, xr 143), (1, xi t), (2, xi x), (3, xi y)]) (st' := [xi 8, xi (↑c)]) rfl ?_
                    refine ex_ic rfl (by first | omega | (constructor <;> omega) | assumption) (by decide) (fun (h16 : ¬ (↑c : Int) = 8) => ?_) (fun (h16 : ¬ ¬ (↑c : Int) = 8) => ?_)
                    · exfalso; omega
                    · refine ex_st 1 (pc' := 52) (ls' := [(0, xr 143), (1, xi t), (2, xi x), (3, xi y)]) (st' := [xi (-4)]) rfl ?_
                      refine ex_reti rfl rfl ?_
                      exact ⟨x_req (by first | rfl | omega), _, _, rfl, hR⟩
                  · exfalso; omega
                · exfalso; omega
            · exfalso; omega
        · refine ex_st 1 (pc' := 44) (ls' := [(0, xr 0), (1, xi t), (2, xi x), (3, xi y)]) (st' := [xi (-2)]) rfl ?_
          refine ex_reti rfl rfl ?_
          refine x_CQ.of (M := xM_m_book) rfl (Nat.le_of_ble_eq_true rfl) ?_
          refine ex_st 2 (pc' := 2) (ls' := [(0, xr 143), (1, xi t), (2, xi x), (3, xi y)]) (st' := [xi (-1), xi t]) rfl ?_
          refine ex_ic rfl (by first | omega | (constructor <;> omega) | assumption) (by decide) (fun (h17 : ¬ t = (-1)) => ?_) (fun (h17 : ¬ ¬ t = (-1)) => ?_)
          · refine ex_st 2 (pc' := 14) (ls' := [(0, xr 143), (1, xi t), (2, xi x), (3, xi y)]) (st' := [xi t, xr 143]) rfl ?_
            refine ex_call (ct_m_isOfficial2 (c := I 143 0) (by first | omega | (constructor <;> omega) | assumption | ((repeat rw [x_up_far (by omega)]); first | rfl | omega | (constructor <;> omega))) (by (repeat rw [x_up_far (by omega)]); try rfl) (by first | omega | (constructor <;> omega) | assumption | ((repeat rw [x_up_far (by omega)]); first | rfl | omega | (constructor <;> omega)))) (by decide) rfl ⟨rfl, rfl, rfl⟩ ⟨Nat.le_of_ble_eq_true rfl, rfl, rfl⟩ (Nat.le_of_ble_eq_true rfl) rfl ?_
            refine ex_beq rfl (fun h18 => ?_) (fun h18 => ?_)
            · exfalso; omega
            · refine ex_st 2 (pc' := 22) (ls' := [(0, xr 143), (1, xi t), (2, xi x), (3, xi y)]) (st' := [xi x, xr 143]) rfl ?_
              refine ex_call (ct_m_isThing (by first | omega | (constructor <;> omega) | assumption)) (by decide) rfl ⟨rfl, rfl, rfl⟩ ⟨Nat.le_of_ble_eq_true rfl, rfl, rfl⟩ (Nat.le_of_ble_eq_true rfl) rfl ?_
              refine ex_bne rfl (fun h19 => ?_) (fun h19 => ?_)
              · refine ex_st 2 (pc' := 32) (ls' := [(0, xr 143), (1, xi t), (2, xi x), (3, xi y)]) (st' := [xi y, xr 143]) rfl ?_
                refine ex_call (ct_m_isDigitNumber (by first | omega | (constructor <;> omega) | assumption)) (by decide) rfl ⟨rfl, rfl, rfl⟩ ⟨Nat.le_of_ble_eq_true rfl, rfl, rfl⟩ (Nat.le_of_ble_eq_true rfl) rfl ?_
                refine ex_bne rfl (fun h20 => ?_) (fun h20 => ?_)
                · exfalso; omega
                · refine ex_st 1 (pc' := 40) (ls' := [(0, xr 143), (1, xi t), (2, xi x), (3, xi y)]) (st' := [xi (-2)]) rfl ?_
                  refine ex_reti rfl rfl ?_
                  exact ⟨x_req (by first | rfl | omega), _, _, rfl, hR⟩
              · exfalso; omega
          · exfalso; omega
      · refine ex_st 1 (pc' := 34) (ls' := [(0, xr 0), (1, xi t), (2, xi x), (3, xi y)]) (st' := [xi (-1)]) rfl ?_
        refine ex_reti rfl rfl ?_
        refine x_CQ.of (M := xM_m_book) rfl (Nat.le_of_ble_eq_true rfl) ?_
        refine ex_st 2 (pc' := 2) (ls' := [(0, xr 143), (1, xi t), (2, xi x), (3, xi y)]) (st' := [xi (-1), xi t]) rfl ?_
        refine ex_ic rfl (by first | omega | (constructor <;> omega) | assumption) (by decide) (fun (h21 : ¬ t = (-1)) => ?_) (fun (h21 : ¬ ¬ t = (-1)) => ?_)
        · refine ex_st 2 (pc' := 14) (ls' := [(0, xr 143), (1, xi t), (2, xi x), (3, xi y)]) (st' := [xi t, xr 143]) rfl ?_
          refine ex_call (ct_m_isOfficial2 (c := I 143 0) (by first | omega | (constructor <;> omega) | assumption | ((repeat rw [x_up_far (by omega)]); first | rfl | omega | (constructor <;> omega))) (by (repeat rw [x_up_far (by omega)]); try rfl) (by first | omega | (constructor <;> omega) | assumption | ((repeat rw [x_up_far (by omega)]); first | rfl | omega | (constructor <;> omega)))) (by decide) rfl ⟨rfl, rfl, rfl⟩ ⟨Nat.le_of_ble_eq_true rfl, rfl, rfl⟩ (Nat.le_of_ble_eq_true rfl) rfl ?_
          refine ex_beq rfl (fun h22 => ?_) (fun h22 => ?_)
          · exfalso; omega
          · refine ex_st 2 (pc' := 22) (ls' := [(0, xr 143), (1, xi t), (2, xi x), (3, xi y)]) (st' := [xi x, xr 143]) rfl ?_
            refine ex_call (ct_m_isThing (by first | omega | (constructor <;> omega) | assumption)) (by decide) rfl ⟨rfl, rfl, rfl⟩ ⟨Nat.le_of_ble_eq_true rfl, rfl, rfl⟩ (Nat.le_of_ble_eq_true rfl) rfl ?_
            refine ex_bne rfl (fun h23 => ?_) (fun h23 => ?_)
            · exfalso; omega
            · refine ex_st 1 (pc' := 29) (ls' := [(0, xr 143), (1, xi t), (2, xi x), (3, xi y)]) (st' := [xi (-1)]) rfl ?_
              refine ex_reti rfl rfl ?_
              exact ⟨x_req (by first | rfl | omega), _, _, rfl, hR⟩
        · exfalso; omega
  · refine ex_st 4 (pc' := 13) (ls' := [(0, xr 0), (1, xi t), (2, xi x), (3, xi y)]) (st' := [xi 0, xr 9]) rfl ?_
    refine ex_pfi rfl (by decide) (rfl : xSH[9]? = some _) (by decide) rfl (by decide) (fun h => by cases h) ?_
    refine ex_st 1 (pc' := 17) (ls' := [(0, xr 0), (1, xi t), (2, xi x), (3, xi y)]) (st' := [xi 0]) rfl ?_
    refine ex_reti rfl rfl ?_
    refine x_CQ.of (M := xM_m_book) rfl (Nat.le_of_ble_eq_true rfl) ?_
    refine ex_st 2 (pc' := 2) (ls' := [(0, xr 143), (1, xi t), (2, xi x), (3, xi y)]) (st' := [xi (-1), xi t]) rfl ?_
    refine ex_ic rfl (by first | omega | (constructor <;> omega) | assumption) (by decide) (fun (h24 : ¬ t = (-1)) => ?_) (fun (h24 : ¬ ¬ t = (-1)) => ?_)
    · exfalso; omega
    · refine ex_st 2 (pc' := 7) (ls' := [(0, xr 143), (1, xi t), (2, xi x), (3, xi y)]) (st' := [xi 0, xr 143]) rfl ?_
      refine ex_pfi rfl (by decide) (rfl : xSH[143]? = some _) (by decide) rfl (by decide) (fun h => by cases h) ?_
      refine ex_st 1 (pc' := 11) (ls' := [(0, xr 143), (1, xi t), (2, xi x), (3, xi y)]) (st' := [xi 0]) rfl ?_
      refine ex_reti rfl rfl ?_
      refine ⟨x_req (by first | rfl | omega), ?_⟩
      refine ⟨_, _, rfl, ?_⟩
      generalize hM : (x_up (x_up I 9 2 0) 143 44 0) = I2
      have hF : ∀ k j, ¬ ((k = 143 ∧ j = 44) ∨ (k = 9 ∧ j = 2)) → I2 k j = I k j := by intro k j hk; rw [← hM]; (repeat rw [x_up_far (by omega)])
      have hw0 : I2 143 44 = 0 := by rw [← hM]; (repeat (first | rw [x_up_far (by omega)] | rw [x_up_at2 (by omega) (by omega)]))
      have hw1 : I2 9 2 = 0 := by rw [← hM]; (repeat (first | rw [x_up_far (by omega)] | rw [x_up_at2 (by omega) (by omega)]))
      clear hM
      have hI2 : RIw I2 := by
        obtain ⟨gs, go, ga, gb, gr, gd, gg, ge, gp, gk⟩ := id hI
        exact ⟨gs.fr ⟨by (repeat rw [hF _ _ (by omega)]); try rfl, by (repeat rw [hF _ _ (by omega)]); try rfl, by (repeat rw [hF _ _ (by omega)]); try rfl, by (repeat rw [hF _ _ (by omega)]); try rfl, by (repeat rw [hF _ _ (by omega)]); try rfl, by (repeat rw [hF _ _ (by omega)]); try rfl, by (repeat rw [hF _ _ (by omega)]); try rfl, by (repeat rw [hF _ _ (by omega)]); try rfl, by (repeat rw [hF _ _ (by omega)]); try rfl⟩, go.fr (by intros; (repeat rw [hF _ _ (by omega)]); try rfl) (by intros; (repeat rw [hF _ _ (by omega)]); try rfl), ga.fr (by intros; (repeat rw [hF _ _ (by omega)]); try rfl) (by (repeat rw [hF _ _ (by omega)]); try rfl), gb.fr (by intros; (repeat rw [hF _ _ (by omega)]); try rfl) (by intros; (repeat rw [hF _ _ (by omega)]); try rfl), gr.fr (by intros; (repeat rw [hF _ _ (by omega)]); try rfl) (by intros; (repeat rw [hF _ _ (by omega)]); try rfl), gd.fr (by intros; (repeat rw [hF _ _ (by omega)]); try rfl) (by intros; (repeat rw [hF _ _ (by omega)]); try rfl) (by (repeat rw [hF _ _ (by omega)]); try rfl), gg.fr ⟨by (repeat rw [hF _ _ (by omega)]); try rfl, by (repeat rw [hF _ _ (by omega)]); try rfl⟩ (by intros; (repeat rw [hF _ _ (by omega)]); try rfl) (by intros; (repeat rw [hF _ _ (by omega)]); try rfl), ge.fr ⟨by (repeat rw [hF _ _ (by omega)]); try rfl, by (repeat rw [hF _ _ (by omega)]); try rfl, by (repeat rw [hF _ _ (by omega)]); try rfl⟩ (by intros; (repeat rw [hF _ _ (by omega)]); try rfl) (by intros; (repeat rw [hF _ _ (by omega)]); try rfl), gp.fr ⟨by (repeat rw [hF _ _ (by omega)]); try rfl, by (repeat rw [hF _ _ (by omega)]); try rfl, by (repeat rw [hF _ _ (by omega)]); try rfl⟩ (by intros; (repeat rw [hF _ _ (by omega)]); try rfl) (by intros; (repeat rw [hF _ _ (by omega)]); try rfl), gk.fr ⟨by (repeat rw [hF _ _ (by omega)]); try rfl, by (repeat rw [hF _ _ (by omega)]); try rfl, by (repeat rw [hF _ _ (by omega)]); try rfl⟩ (by intros; (repeat rw [hF _ _ (by omega)]); try rfl) (by intros; (repeat rw [hF _ _ (by omega)]); try rfl)⟩
      refine ⟨⟨hNs.fr ⟨by (repeat rw [hF _ _ (by omega)]); try rfl, by (repeat rw [hF _ _ (by omega)]); try rfl, by (repeat rw [hF _ _ (by omega)]); try rfl, by (repeat rw [hF _ _ (by omega)]); try rfl, by (repeat rw [hF _ _ (by omega)]); try rfl, by (repeat rw [hF _ _ (by omega)]); try rfl, by (repeat rw [hF _ _ (by omega)]); try rfl, by (repeat rw [hF _ _ (by omega)]); try rfl, by (repeat rw [hF _ _ (by omega)]); try rfl⟩, hNo.fr (by intros; (repeat rw [hF _ _ (by omega)]); try rfl) (by intros; (repeat rw [hF _ _ (by omega)]); try rfl), hNa.fr (by intros; (repeat rw [hF _ _ (by omega)]); try rfl) (by (repeat rw [hF _ _ (by omega)]); try rfl), hNb.fr (by intros; (repeat rw [hF _ _ (by omega)]); try rfl) (by intros; (repeat rw [hF _ _ (by omega)]); try rfl), hNr.fr (by intros; (repeat rw [hF _ _ (by omega)]); try rfl) (by intros; (repeat rw [hF _ _ (by omega)]); try rfl), hNd.fr (by intros; (repeat rw [hF _ _ (by omega)]); try rfl) (by intros; (repeat rw [hF _ _ (by omega)]); try rfl) (by (repeat rw [hF _ _ (by omega)]); try rfl), hNg.fr ⟨by (repeat rw [hF _ _ (by omega)]); try rfl, by (repeat rw [hF _ _ (by omega)]); try rfl⟩ (by intros; (repeat rw [hF _ _ (by omega)]); try rfl) (by intros; (repeat rw [hF _ _ (by omega)]); try rfl), hNe.fr ⟨by (repeat rw [hF _ _ (by omega)]); try rfl, by (repeat rw [hF _ _ (by omega)]); try rfl, by (repeat rw [hF _ _ (by omega)]); try rfl⟩ (by intros; (repeat rw [hF _ _ (by omega)]); try rfl) (by intros; (repeat rw [hF _ _ (by omega)]); try rfl), hNp.fr ⟨by (repeat rw [hF _ _ (by omega)]); try rfl, by (repeat rw [hF _ _ (by omega)]); try rfl, by (repeat rw [hF _ _ (by omega)]); try rfl⟩ (by intros; (repeat rw [hF _ _ (by omega)]); try rfl) (by intros; (repeat rw [hF _ _ (by omega)]); try rfl), ?_⟩, hI2, hT.fr ⟨by (repeat rw [hF _ _ (by omega)]); try rfl, by (repeat rw [hF _ _ (by omega)]); try rfl⟩ (by intros; (repeat rw [hF _ _ (by omega)]); try rfl) (by intros; (repeat rw [hF _ _ (by omega)]); try rfl) (by intros; (repeat rw [hF _ _ (by omega)]); try rfl), hX.fr ⟨by (repeat rw [hF _ _ (by omega)]); try rfl, by (repeat rw [hF _ _ (by omega)]); try rfl⟩ (by intros; (repeat rw [hF _ _ (by omega)]); try rfl), hC.fr ⟨by (repeat rw [hF _ _ (by omega)]); try rfl, by (repeat rw [hF _ _ (by omega)]); try rfl⟩ (by intros; (repeat rw [hF _ _ (by omega)]); try rfl), hH.fr ⟨by (repeat rw [hF _ _ (by omega)]); try rfl, by (repeat rw [hF _ _ (by omega)]); try rfl, by (repeat rw [hF _ _ (by omega)]); try rfl⟩ (by intros; (repeat rw [hF _ _ (by omega)]); try rfl) (by intros; (repeat rw [hF _ _ (by omega)]); try rfl), hQ.fr (by intros; (repeat rw [hF _ _ (by omega)]); try rfl) (by intros; (repeat rw [hF _ _ (by omega)]); try rfl) (by intros; (repeat rw [hF _ _ (by omega)]); try rfl) (by intros; (repeat rw [hF _ _ (by omega)]); try rfl)⟩
      · refine ⟨by (repeat (first | rw [hw0] | rw [hw1] | rw [hF _ _ (by omega)])); try omega, by (repeat (first | rw [hw0] | rw [hw1] | rw [hF _ _ (by omega)])); omega, by (repeat (first | rw [hw0] | rw [hw1] | rw [hF _ _ (by omega)])); omega, by (repeat (first | rw [hw0] | rw [hw1] | rw [hF _ _ (by omega)])); try exact hz4, fun x hx => ?_⟩
        exfalso; rw [hw0] at hx; omega
theorem op_plan {sc : List Int} {I : Nat → Nat → Int} {L : Nat → Nat → Int64} (hR : Rl I L) {t x : Int} (ht : x_R t) (hx : x_R x) : x_PQ sc xN_G_plan [xr 0, xi t, xi x] xN_m_plan [xr 143, xi t, xi x] (xSH, I, L) := by
  obtain ⟨⟨hNs, hNo, hNa, hNb, hNr, hNd, hNg, hNe, hNp, hNk⟩, hI, hT, hX, hC, hH, hQ⟩ := id hR
  have hs := hNs
  unfold RNs at hs
  obtain ⟨hz1, hz2, hz3, hz4, hz5⟩ := id hNp
  obtain ⟨c, hc0⟩ := Int.eq_ofNat_of_zero_le hz2
  have hc1 : I 7 2 = (c : Int) := by omega
  refine x_CQ.of (M := xM_G_plan) rfl (Nat.le_of_ble_eq_true rfl) ?_
  refine ex_st 2 (pc' := 2) (ls' := [(0, xr 0), (1, xi t), (2, xi x)]) (st' := [xi (-1), xi t]) rfl ?_
  refine ex_ic rfl (by first | omega | (constructor <;> omega) | assumption) (by decide) (fun (h0 : ¬ t = (-1)) => ?_) (fun (h0 : ¬ ¬ t = (-1)) => ?_)
  · refine ex_st 1 (pc' := 19) (ls' := [(0, xr 0), (1, xi t), (2, xi x)]) (st' := [xi t]) rfl ?_
    refine ex_if rfl (by first | omega | (constructor <;> omega) | assumption) (fun (h1 : t < 0) => ?_) (fun (h1 : ¬ t < 0) => ?_)
    · refine ex_st 1 (pc' := 28) (ls' := [(0, xr 0), (1, xi t), (2, xi x)]) (st' := [xi (-1)]) rfl ?_
      refine ex_reti rfl rfl ?_
      refine x_CQ.of (M := xM_m_plan) rfl (Nat.le_of_ble_eq_true rfl) ?_
      refine ex_st 2 (pc' := 2) (ls' := [(0, xr 143), (1, xi t), (2, xi x)]) (st' := [xi (-1), xi t]) rfl ?_
      refine ex_ic rfl (by first | omega | (constructor <;> omega) | assumption) (by decide) (fun (h2 : ¬ t = (-1)) => ?_) (fun (h2 : ¬ ¬ t = (-1)) => ?_)
      · refine ex_st 4 (pc' := 16) (ls' := [(0, xr 143), (1, xi t), (2, xi x)]) (st' := [xi 3, xi 0, xi t, xr 143]) rfl ?_
        refine ex_call (ct_m_in (by first | omega | (constructor <;> omega) | assumption) (by first | omega | (constructor <;> omega) | assumption) (by first | omega | (constructor <;> omega) | assumption)) (by decide) rfl ⟨rfl, rfl, rfl⟩ ⟨Nat.le_of_ble_eq_true rfl, rfl, rfl⟩ (Nat.le_of_ble_eq_true rfl) rfl ?_
        refine ex_beq rfl (fun h3 => ?_) (fun h3 => ?_)
        · refine ex_st 1 (pc' := 41) (ls' := [(0, xr 143), (1, xi t), (2, xi x)]) (st' := [xi (-1)]) rfl ?_
          refine ex_reti rfl rfl ?_
          exact ⟨x_req (by first | rfl | omega), _, _, rfl, hR⟩
        · exfalso; omega
      · exfalso; omega
    · refine ex_st 2 (pc' := 24) (ls' := [(0, xr 0), (1, xi t), (2, xi x)]) (st' := [xi 3, xi t]) rfl ?_
      refine ex_ic rfl (by first | omega | (constructor <;> omega) | assumption) (by decide) (fun (h4 : t ≤ 3) => ?_) (fun (h4 : ¬ t ≤ 3) => ?_)
      · refine ex_st 2 (pc' := 31) (ls' := [(0, xr 0), (1, xi t), (2, xi x)]) (st' := [xi 1, xi t]) rfl ?_
        refine ex_ic rfl (by first | omega | (constructor <;> omega) | assumption) (by decide) (fun (h5 : t = 1) => ?_) (fun (h5 : ¬ t = 1) => ?_)
        · refine ex_st 2 (pc' := 41) (ls' := [(0, xr 0), (1, xi t), (2, xi x)]) (st' := [xi x, xr 0]) rfl ?_
          refine ex_call (ct_G_isOfficial2 (c := I 1 1) (by first | omega | (constructor <;> omega) | assumption | ((repeat rw [x_up_far (by omega)]); first | rfl | omega | (constructor <;> omega))) (by (repeat rw [x_up_far (by omega)]); try rfl) (by first | omega | (constructor <;> omega) | assumption | ((repeat rw [x_up_far (by omega)]); first | rfl | omega | (constructor <;> omega)))) (by decide) rfl ⟨rfl, rfl, rfl⟩ ⟨Nat.le_of_ble_eq_true rfl, rfl, rfl⟩ (Nat.le_of_ble_eq_true rfl) rfl ?_
          refine ex_bne rfl (fun h6 => ?_) (fun h6 => ?_)
          · refine ex_st 2 (pc' := 51) (ls' := [(0, xr 0), (1, xi t), (2, xi x)]) (st' := [xi 3, xi t]) rfl ?_
            refine ex_ic rfl (by first | omega | (constructor <;> omega) | assumption) (by decide) (fun (h7 : ¬ t = 3) => ?_) (fun (h7 : ¬ ¬ t = 3) => ?_)
            · refine ex_st 7 (pc' := 75) (ls' := [(0, xr 0), (1, xi t), (2, xi x)]) (st' := [xi 0, xi 0, xi x, xi t, xr 7]) rfl ?_
              refine ex_inl (M' := xM_Rw_add) (as := [xr 7, xi t, xi x, xi 0, xi 0]) (rest := []) (D' := 28) rfl (Nat.le_of_ble_eq_true rfl) (by decide) rfl ⟨rfl, rfl, rfl⟩ ⟨Nat.le_of_ble_eq_true rfl, rfl, rfl⟩ (Nat.le_of_ble_eq_true rfl) rfl ?_
              refine ex_st 2 (pc' := 4) (ls' := [(0, xr 7), (1, xi t), (2, xi x), (3, xi 0), (4, xi 0)]) (st' := [xi (I 7 2)]) rfl ?_
              rw [hc1]
              refine ex_st 2 (pc' := 8) (ls' := [(0, xr 7), (1, xi t), (2, xi x), (3, xi 0), (4, xi 0)]) (st' := [xi (I 7 0), xi (↑c)]) rfl ?_
              rw [hz4]
              refine ex_ic rfl (by first | omega | (constructor <;> omega) | assumption) (by decide) (fun (h8 : (↑c : Int) < 10) => ?_) (fun (h8 : ¬ (↑c : Int) < 10) => ?_)
              · refine ex_st 4 (pc' := 21) (ls' := [(0, xr 7), (1, xi t), (2, xi x), (3, xi 0), (4, xi 0)]) (st' := [xi (I 7 2), xr 8]) rfl ?_
                rw [hc1]
                refine ex_st 3 (pc' := 24) (ls' := [(0, xr 7), (1, xi t), (2, xi x), (3, xi 0), (4, xi 0)]) (st' := [xi t, xi ((↑c) * 4), xr 8]) rfl ?_
                refine ex_iast (j := ((c) * 4)) rfl (by decide) (rfl : xSH[8]? = some _) (by omega) (by omega) (by decide) ?_
                refine ex_st 4 (pc' := 33) (ls' := [(0, xr 7), (1, xi t), (2, xi x), (3, xi 0), (4, xi 0)]) (st' := [xi ((x_up I 8 ((c) * 4) t) 7 2), xr 8]) rfl ?_
                rw [(x_up_far (by first | decide | omega) : (x_up I 8 ((c) * 4) t) 7 2 = I 7 2)]
                rw [hc1]
                refine ex_st 5 (pc' := 38) (ls' := [(0, xr 7), (1, xi t), (2, xi x), (3, xi 0), (4, xi 0)]) (st' := [xi x, xi (((↑c) * 4) + 1), xr 8]) rfl ?_
                refine ex_iast (j := (((c) * 4) + 1)) rfl (by decide) (rfl : xSH[8]? = some _) (by omega) (by omega) (by decide) ?_
                refine ex_st 4 (pc' := 47) (ls' := [(0, xr 7), (1, xi t), (2, xi x), (3, xi 0), (4, xi 0)]) (st' := [xi ((x_up (x_up I 8 ((c) * 4) t) 8 (((c) * 4) + 1) x) 7 2), xr 8]) rfl ?_
                rw [(x_up_far (by first | decide | omega) : (x_up (x_up I 8 ((c) * 4) t) 8 (((c) * 4) + 1) x) 7 2 = (x_up I 8 ((c) * 4) t) 7 2)]
                rw [(x_up_far (by first | decide | omega) : (x_up I 8 ((c) * 4) t) 7 2 = I 7 2)]
                rw [hc1]
                refine ex_st 5 (pc' := 52) (ls' := [(0, xr 7), (1, xi t), (2, xi x), (3, xi 0), (4, xi 0)]) (st' := [xi 0, xi (((↑c) * 4) + 2), xr 8]) rfl ?_
                refine ex_iast (j := (((c) * 4) + 2)) rfl (by decide) (rfl : xSH[8]? = some _) (by omega) (by omega) (by decide) ?_
                refine ex_st 4 (pc' := 61) (ls' := [(0, xr 7), (1, xi t), (2, xi x), (3, xi 0), (4, xi 0)]) (st' := [xi ((x_up (x_up (x_up I 8 ((c) * 4) t) 8 (((c) * 4) + 1) x) 8 (((c) * 4) + 2) 0) 7 2), xr 8]) rfl ?_
                rw [(x_up_far (by first | decide | omega) : (x_up (x_up (x_up I 8 ((c) * 4) t) 8 (((c) * 4) + 1) x) 8 (((c) * 4) + 2) 0) 7 2 = (x_up (x_up I 8 ((c) * 4) t) 8 (((c) * 4) + 1) x) 7 2)]
                rw [(x_up_far (by first | decide | omega) : (x_up (x_up I 8 ((c) * 4) t) 8 (((c) * 4) + 1) x) 7 2 = (x_up I 8 ((c) * 4) t) 7 2)]
                rw [(x_up_far (by first | decide | omega) : (x_up I 8 ((c) * 4) t) 7 2 = I 7 2)]
                rw [hc1]
                refine ex_st 5 (pc' := 67) (ls' := [(0, xr 7), (1, xi t), (2, xi x), (3, xi 0), (4, xi 0)]) (st' := [xi 0, xi (((↑c) * 4) + 3), xr 8]) rfl ?_
                refine ex_iast (j := (((c) * 4) + 3)) rfl (by decide) (rfl : xSH[8]? = some _) (by omega) (by omega) (by decide) ?_
                refine ex_st 3 (pc' := 73) (ls' := [(0, xr 7), (1, xi t), (2, xi x), (3, xi 0), (4, xi 0)]) (st' := [xi ((x_up (x_up (x_up (x_up I 8 ((c) * 4) t) 8 (((c) * 4) + 1) x) 8 (((c) * 4) + 2) 0) 8 (((c) * 4) + 3) 0) 7 2), xr 7]) rfl ?_
                rw [(x_up_far (by first | decide | omega) : (x_up (x_up (x_up (x_up I 8 ((c) * 4) t) 8 (((c) * 4) + 1) x) 8 (((c) * 4) + 2) 0) 8 (((c) * 4) + 3) 0) 7 2 = (x_up (x_up (x_up I 8 ((c) * 4) t) 8 (((c) * 4) + 1) x) 8 (((c) * 4) + 2) 0) 7 2)]
                rw [(x_up_far (by first | decide | omega) : (x_up (x_up (x_up I 8 ((c) * 4) t) 8 (((c) * 4) + 1) x) 8 (((c) * 4) + 2) 0) 7 2 = (x_up (x_up I 8 ((c) * 4) t) 8 (((c) * 4) + 1) x) 7 2)]
                rw [(x_up_far (by first | decide | omega) : (x_up (x_up I 8 ((c) * 4) t) 8 (((c) * 4) + 1) x) 7 2 = (x_up I 8 ((c) * 4) t) 7 2)]
                rw [(x_up_far (by first | decide | omega) : (x_up I 8 ((c) * 4) t) 7 2 = I 7 2)]
                rw [hc1]
                refine ex_st 2 (pc' := 75) (ls' := [(0, xr 7), (1, xi t), (2, xi x), (3, xi 0), (4, xi 0)]) (st' := [xi ((↑c) + 1), xr 7]) rfl ?_
                refine ex_pfi rfl (by decide) (rfl : xSH[7]? = some _) (by decide) rfl (by decide) (fun h => by cases h) ?_
                refine ex_st 1 (pc' := 79) (ls' := [(0, xr 7), (1, xi t), (2, xi x), (3, xi 0), (4, xi 0)]) (st' := [xi 1]) rfl ?_
                refine ex_retz rfl (Or.inr rfl) rfl ?_
                refine ex_st 1 (pc' := 81) (ls' := [(0, xr 0), (1, xi t), (2, xi x)]) (st' := []) rfl ?_
                refine ex_st 4 (pc' := 91) (ls' := [(0, xr 0), (1, xi t), (2, xi x)]) (st' := [xi ((x_up (x_up (x_up (x_up (x_up I 8 ((c) * 4) t) 8 (((c) * 4) + 1) x) 8 (((c) * 4) + 2) 0) 8 (((c) * 4) + 3) 0) 7 2 ((↑c) + 1)) 7 2)]) rfl ?_
                rw [x_up_at (x_up (x_up (x_up (x_up I 8 ((c) * 4) t) 8 (((c) * 4) + 1) x) 8 (((c) * 4) + 2) 0) 8 (((c) * 4) + 3) 0) 7 2 ((↑c) + 1)]
                refine ex_st 1 (pc' := 96) (ls' := [(0, xr 0), (1, xi t), (2, xi x)]) (st' := [xi ((↑c) + 1)]) rfl ?_
                refine ex_reti rfl rfl ?_
                refine x_CQ.of (M := xM_m_plan) rfl (Nat.le_of_ble_eq_true rfl) ?_
                refine ex_st 2 (pc' := 2) (ls' := [(0, xr 143), (1, xi t), (2, xi x)]) (st' := [xi (-1), xi t]) rfl ?_
                refine ex_ic rfl (by first | omega | (constructor <;> omega) | assumption) (by decide) (fun (h9 : ¬ t = (-1)) => ?_) (fun (h9 : ¬ ¬ t = (-1)) => ?_)
                · refine ex_st 4 (pc' := 16) (ls' := [(0, xr 143), (1, xi t), (2, xi x)]) (st' := [xi 3, xi 0, xi t, xr 143]) rfl ?_
                  refine ex_call (ct_m_in (by first | omega | (constructor <;> omega) | assumption) (by first | omega | (constructor <;> omega) | assumption) (by first | omega | (constructor <;> omega) | assumption)) (by decide) rfl ⟨rfl, rfl, rfl⟩ ⟨Nat.le_of_ble_eq_true rfl, rfl, rfl⟩ (Nat.le_of_ble_eq_true rfl) rfl ?_
                  refine ex_beq rfl (fun h10 => ?_) (fun h10 => ?_)
                  · exfalso; omega
                  · refine ex_st 4 (pc' := 26) (ls' := [(0, xr 143), (1, xi t), (2, xi x)]) (st' := [xi 2, xi 1, xi t, xr 143]) rfl ?_
                    refine ex_call (ct_m_in (by first | omega | (constructor <;> omega) | assumption) (by first | omega | (constructor <;> omega) | assumption) (by first | omega | (constructor <;> omega) | assumption)) (by decide) rfl ⟨rfl, rfl, rfl⟩ ⟨Nat.le_of_ble_eq_true rfl, rfl, rfl⟩ (Nat.le_of_ble_eq_true rfl) rfl ?_
                    refine ex_beq rfl (fun h11 => ?_) (fun h11 => ?_)
                    · exfalso; omega
                    · refine ex_st 2 (pc' := 34) (ls' := [(0, xr 143), (1, xi t), (2, xi x)]) (st' := [xi x, xr 143]) rfl ?_
                      refine ex_call (ct_m_isOfficial2 (c := I 143 0) (by first | omega | (constructor <;> omega) | assumption | ((repeat rw [x_up_far (by omega)]); first | rfl | omega | (constructor <;> omega))) (by (repeat rw [x_up_far (by omega)]); try rfl) (by first | omega | (constructor <;> omega) | assumption | ((repeat rw [x_up_far (by omega)]); first | rfl | omega | (constructor <;> omega)))) (by decide) rfl ⟨rfl, rfl, rfl⟩ ⟨Nat.le_of_ble_eq_true rfl, rfl, rfl⟩ (Nat.le_of_ble_eq_true rfl) rfl ?_
                      refine ex_bne rfl (fun h12 => ?_) (fun h12 => ?_)
                      · refine ex_st 2 (pc' := 44) (ls' := [(0, xr 143), (1, xi t), (2, xi x)]) (st' := [xi 3, xi t]) rfl ?_
                        refine ex_ic rfl (by first | omega | (constructor <;> omega) | assumption) (by decide) (fun (h13 : ¬ t = 3) => ?_) (fun (h13 : ¬ ¬ t = 3) => ?_)
                        · refine ex_st 2 (pc' := 62) (ls' := [(0, xr 143), (1, xi t), (2, xi x)]) (st' := [xi ((x_up (x_up (x_up (x_up (x_up I 8 ((c) * 4) t) 8 (((c) * 4) + 1) x) 8 (((c) * 4) + 2) 0) 8 (((c) * 4) + 3) 0) 7 2 ((↑c) + 1)) 143 43)]) rfl ?_
                          rw [(x_up_far (by first | decide | omega) : (x_up (x_up (x_up (x_up (x_up I 8 ((c) * 4) t) 8 (((c) * 4) + 1) x) 8 (((c) * 4) + 2) 0) 8 (((c) * 4) + 3) 0) 7 2 ((↑c) + 1)) 143 43 = (x_up (x_up (x_up (x_up I 8 ((c) * 4) t) 8 (((c) * 4) + 1) x) 8 (((c) * 4) + 2) 0) 8 (((c) * 4) + 3) 0) 143 43)]
                          rw [(x_up_far (by first | decide | omega) : (x_up (x_up (x_up (x_up I 8 ((c) * 4) t) 8 (((c) * 4) + 1) x) 8 (((c) * 4) + 2) 0) 8 (((c) * 4) + 3) 0) 143 43 = (x_up (x_up (x_up I 8 ((c) * 4) t) 8 (((c) * 4) + 1) x) 8 (((c) * 4) + 2) 0) 143 43)]
                          rw [(x_up_far (by first | decide | omega) : (x_up (x_up (x_up I 8 ((c) * 4) t) 8 (((c) * 4) + 1) x) 8 (((c) * 4) + 2) 0) 143 43 = (x_up (x_up I 8 ((c) * 4) t) 8 (((c) * 4) + 1) x) 143 43)]
                          rw [(x_up_far (by first | decide | omega) : (x_up (x_up I 8 ((c) * 4) t) 8 (((c) * 4) + 1) x) 143 43 = (x_up I 8 ((c) * 4) t) 143 43)]
                          rw [(x_up_far (by first | decide | omega) : (x_up I 8 ((c) * 4) t) 143 43 = I 143 43)]
                          rw [hc0]
                          refine ex_st 1 (pc' := 64) (ls' := [(0, xr 143), (1, xi t), (2, xi x)]) (st' := [xi 10, xi (↑c)]) rfl ?_
                          refine ex_ic rfl (by first | omega | (constructor <;> omega) | assumption) (by decide) (fun (h14 : ¬ (↑c : Int) = 10) => ?_) (fun (h14 : ¬ ¬ (↑c : Int) = 10) => ?_)
                          · refine ex_st 4 (pc' := 78) (ls' := [(0, xr 143), (1, xi t), (2, xi x)]) (st' := [xi ((x_up (x_up (x_up (x_up (x_up I 8 ((c) * 4) t) 8 (((c) * 4) + 1) x) 8 (((c) * 4) + 2) 0) 8 (((c) * 4) + 3) 0) 7 2 ((↑c) + 1)) 143 43), xr 169]) rfl ?_
                            rw [(x_up_far (by first | decide | omega) : (x_up (x_up (x_up (x_up (x_up I 8 ((c) * 4) t) 8 (((c) * 4) + 1) x) 8 (((c) * 4) + 2) 0) 8 (((c) * 4) + 3) 0) 7 2 ((↑c) + 1)) 143 43 = (x_up (x_up (x_up (x_up I 8 ((c) * 4) t) 8 (((c) * 4) + 1) x) 8 (((c) * 4) + 2) 0) 8 (((c) * 4) + 3) 0) 143 43)]
                            rw [(x_up_far (by first | decide | omega) : (x_up (x_up (x_up (x_up I 8 ((c) * 4) t) 8 (((c) * 4) + 1) x) 8 (((c) * 4) + 2) 0) 8 (((c) * 4) + 3) 0) 143 43 = (x_up (x_up (x_up I 8 ((c) * 4) t) 8 (((c) * 4) + 1) x) 8 (((c) * 4) + 2) 0) 143 43)]
                            rw [(x_up_far (by first | decide | omega) : (x_up (x_up (x_up I 8 ((c) * 4) t) 8 (((c) * 4) + 1) x) 8 (((c) * 4) + 2) 0) 143 43 = (x_up (x_up I 8 ((c) * 4) t) 8 (((c) * 4) + 1) x) 143 43)]
                            rw [(x_up_far (by first | decide | omega) : (x_up (x_up I 8 ((c) * 4) t) 8 (((c) * 4) + 1) x) 143 43 = (x_up I 8 ((c) * 4) t) 143 43)]
                            rw [(x_up_far (by first | decide | omega) : (x_up I 8 ((c) * 4) t) 143 43 = I 143 43)]
                            rw [hc0]
                            refine ex_st 1 (pc' := 79) (ls' := [(0, xr 143), (1, xi t), (2, xi x)]) (st' := [xi t, xi (↑c), xr 169]) rfl ?_
                            refine ex_iast (j := c) rfl (by decide) (rfl : xSH[169]? = some _) (by omega) (by omega) (by decide) ?_
                            refine ex_st 4 (pc' := 88) (ls' := [(0, xr 143), (1, xi t), (2, xi x)]) (st' := [xi ((x_up (x_up (x_up (x_up (x_up (x_up I 8 ((c) * 4) t) 8 (((c) * 4) + 1) x) 8 (((c) * 4) + 2) 0) 8 (((c) * 4) + 3) 0) 7 2 ((↑c) + 1)) 169 c t) 143 43), xr 170]) rfl ?_
                            rw [(x_up_far (by first | decide | omega) : (x_up (x_up (x_up (x_up (x_up (x_up I 8 ((c) * 4) t) 8 (((c) * 4) + 1) x) 8 (((c) * 4) + 2) 0) 8 (((c) * 4) + 3) 0) 7 2 ((↑c) + 1)) 169 c t) 143 43 = (x_up (x_up (x_up (x_up (x_up I 8 ((c) * 4) t) 8 (((c) * 4) + 1) x) 8 (((c) * 4) + 2) 0) 8 (((c) * 4) + 3) 0) 7 2 ((↑c) + 1)) 143 43)]
                            rw [(x_up_far (by first | decide | omega) : (x_up (x_up (x_up (x_up (x_up I 8 ((c) * 4) t) 8 (((c) * 4) + 1) x) 8 (((c) * 4) + 2) 0) 8 (((c) * 4) + 3) 0) 7 2 ((↑c) + 1)) 143 43 = (x_up (x_up (x_up (x_up I 8 ((c) * 4) t) 8 (((c) * 4) + 1) x) 8 (((c) * 4) + 2) 0) 8 (((c) * 4) + 3) 0) 143 43)]
                            rw [(x_up_far (by first | decide | omega) : (x_up (x_up (x_up (x_up I 8 ((c) * 4) t) 8 (((c) * 4) + 1) x) 8 (((c) * 4) + 2) 0) 8 (((c) * 4) + 3) 0) 143 43 = (x_up (x_up (x_up I 8 ((c) * 4) t) 8 (((c) * 4) + 1) x) 8 (((c) * 4) + 2) 0) 143 43)]
                            rw [(x_up_far (by first | decide | omega) : (x_up (x_up (x_up I 8 ((c) * 4) t) 8 (((c) * 4) + 1) x) 8 (((c) * 4) + 2) 0) 143 43 = (x_up (x_up I 8 ((c) * 4) t) 8 (((c) * 4) + 1) x) 143 43)]
                            rw [(x_up_far (by first | decide | omega) : (x_up (x_up I 8 ((c) * 4) t) 8 (((c) * 4) + 1) x) 143 43 = (x_up I 8 ((c) * 4) t) 143 43)]
                            rw [(x_up_far (by first | decide | omega) : (x_up I 8 ((c) * 4) t) 143 43 = I 143 43)]
                            rw [hc0]
                            refine ex_st 1 (pc' := 89) (ls' := [(0, xr 143), (1, xi t), (2, xi x)]) (st' := [xi t, xi (↑c), xr 170]) rfl ?_
                            refine ex_if rfl (by first | omega | (constructor <;> omega) | assumption) (fun (h15 : t ≤ 0) => ?_) (fun (h15 : ¬ t ≤ 0) => ?_)
                            · exfalso; omega
                            · refine ex_st 2 (pc' := 97) (ls' := [(0, xr 143), (1, xi t), (2, xi x)]) (st' := [xi x, xi (↑c), xr 170]) rfl ?_
                              refine ex_iast (j := c) rfl (by decide) (rfl : xSH[170]? = some _) (by omega) (by omega) (by decide) ?_
                              refine ex_st 3 (pc' := 103) (ls' := [(0, xr 143), (1, xi t), (2, xi x)]) (st' := [xi ((x_up (x_up (x_up (x_up (x_up (x_up (x_up I 8 ((c) * 4) t) 8 (((c) * 4) + 1) x) 8 (((c) * 4) + 2) 0) 8 (((c) * 4) + 3) 0) 7 2 ((↑c) + 1)) 169 c t) 170 c x) 143 43), xr 143]) rfl ?_
                              rw [(x_up_far (by first | decide | omega) : (x_up (x_up (x_up (x_up (x_up (x_up (x_up I 8 ((c) * 4) t) 8 (((c) * 4) + 1) x) 8 (((c) * 4) + 2) 0) 8 (((c) * 4) + 3) 0) 7 2 ((↑c) + 1)) 169 c t) 170 c x) 143 43 = (x_up (x_up (x_up (x_up (x_up (x_up I 8 ((c) * 4) t) 8 (((c) * 4) + 1) x) 8 (((c) * 4) + 2) 0) 8 (((c) * 4) + 3) 0) 7 2 ((↑c) + 1)) 169 c t) 143 43)]
                              rw [(x_up_far (by first | decide | omega) : (x_up (x_up (x_up (x_up (x_up (x_up I 8 ((c) * 4) t) 8 (((c) * 4) + 1) x) 8 (((c) * 4) + 2) 0) 8 (((c) * 4) + 3) 0) 7 2 ((↑c) + 1)) 169 c t) 143 43 = (x_up (x_up (x_up (x_up (x_up I 8 ((c) * 4) t) 8 (((c) * 4) + 1) x) 8 (((c) * 4) + 2) 0) 8 (((c) * 4) + 3) 0) 7 2 ((↑c) + 1)) 143 43)]
                              rw [(x_up_far (by first | decide | omega) : (x_up (x_up (x_up (x_up (x_up I 8 ((c) * 4) t) 8 (((c) * 4) + 1) x) 8 (((c) * 4) + 2) 0) 8 (((c) * 4) + 3) 0) 7 2 ((↑c) + 1)) 143 43 = (x_up (x_up (x_up (x_up I 8 ((c) * 4) t) 8 (((c) * 4) + 1) x) 8 (((c) * 4) + 2) 0) 8 (((c) * 4) + 3) 0) 143 43)]
                              rw [(x_up_far (by first | decide | omega) : (x_up (x_up (x_up (x_up I 8 ((c) * 4) t) 8 (((c) * 4) + 1) x) 8 (((c) * 4) + 2) 0) 8 (((c) * 4) + 3) 0) 143 43 = (x_up (x_up (x_up I 8 ((c) * 4) t) 8 (((c) * 4) + 1) x) 8 (((c) * 4) + 2) 0) 143 43)]
                              rw [(x_up_far (by first | decide | omega) : (x_up (x_up (x_up I 8 ((c) * 4) t) 8 (((c) * 4) + 1) x) 8 (((c) * 4) + 2) 0) 143 43 = (x_up (x_up I 8 ((c) * 4) t) 8 (((c) * 4) + 1) x) 143 43)]
                              rw [(x_up_far (by first | decide | omega) : (x_up (x_up I 8 ((c) * 4) t) 8 (((c) * 4) + 1) x) 143 43 = (x_up I 8 ((c) * 4) t) 143 43)]
                              rw [(x_up_far (by first | decide | omega) : (x_up I 8 ((c) * 4) t) 143 43 = I 143 43)]
                              rw [hc0]
                              refine ex_st 2 (pc' := 105) (ls' := [(0, xr 143), (1, xi t), (2, xi x)]) (st' := [xi ((↑c) + 1), xr 143]) rfl ?_
                              refine ex_pfi rfl (by decide) (rfl : xSH[143]? = some _) (by decide) rfl (by decide) (fun h => by cases h) ?_
                              refine ex_st 2 (pc' := 112) (ls' := [(0, xr 143), (1, xi t), (2, xi x)]) (st' := [xi ((x_up (x_up (x_up (x_up (x_up (x_up (x_up (x_up I 8 ((c) * 4) t) 8 (((c) * 4) + 1) x) 8 (((c) * 4) + 2) 0) 8 (((c) * 4) + 3) 0) 7 2 ((↑c) + 1)) 169 c t) 170 c x) 143 43 ((↑c) + 1)) 143 43)]) rfl ?_
                              rw [x_up_at (x_up (x_up (x_up (x_up (x_up (x_up (x_up I 8 ((c) * 4) t) 8 (((c) * 4) + 1) x) 8 (((c) * 4) + 2) 0) 8 (((c) * 4) + 3) 0) 7 2 ((↑c) + 1)) 169 c t) 170 c x) 143 43 ((↑c) + 1)]
                              refine ex_reti rfl rfl ?_
                              refine ⟨x_req (by first | rfl | omega), ?_⟩
                              refine ⟨_, _, rfl, ?_⟩
                              generalize hM : (x_up (x_up (x_up (x_up (x_up (x_up (x_up (x_up I 8 ((c) * 4) t) 8 (((c) * 4) + 1) x) 8 (((c) * 4) + 2) 0) 8 (((c) * 4) + 3) 0) 7 2 ((↑c) + 1)) 169 c t) 170 c x) 143 43 ((↑c) + 1)) = I2
                              have hF : ∀ k j, ¬ ((k = 143 ∧ j = 43) ∨ (k = 170 ∧ j = c) ∨ (k = 169 ∧ j = c) ∨ (k = 7 ∧ j = 2) ∨ (k = 8 ∧ j = ((c) * 4) + 3) ∨ (k = 8 ∧ j = ((c) * 4) + 2) ∨ (k = 8 ∧ j = ((c) * 4) + 1) ∨ (k = 8 ∧ j = (c) * 4)) → I2 k j = I k j := by intro k j hk; rw [← hM]; (repeat rw [x_up_far (by omega)])
                              have hw0 : I2 143 43 = ((↑c) + 1) := by rw [← hM]; (repeat (first | rw [x_up_far (by omega)] | rw [x_up_at2 (by omega) (by omega)]))
                              have hw1 : I2 170 c = x := by rw [← hM]; (repeat (first | rw [x_up_far (by omega)] | rw [x_up_at2 (by omega) (by omega)]))
                              have hw2 : I2 169 c = t := by rw [← hM]; (repeat (first | rw [x_up_far (by omega)] | rw [x_up_at2 (by omega) (by omega)]))
                              have hw3 : I2 7 2 = ((↑c) + 1) := by rw [← hM]; (repeat (first | rw [x_up_far (by omega)] | rw [x_up_at2 (by omega) (by omega)]))
                              have hw4 : I2 8 (((c) * 4) + 3) = 0 := by rw [← hM]; (repeat (first | rw [x_up_far (by omega)] | rw [x_up_at2 (by omega) (by omega)]))
                              have hw5 : I2 8 (((c) * 4) + 2) = 0 := by rw [← hM]; (repeat (first | rw [x_up_far (by omega)] | rw [x_up_at2 (by omega) (by omega)]))
                              have hw6 : I2 8 (((c) * 4) + 1) = x := by rw [← hM]; (repeat (first | rw [x_up_far (by omega)] | rw [x_up_at2 (by omega) (by omega)]))
                              have hw7 : I2 8 ((c) * 4) = t := by rw [← hM]; (repeat (first | rw [x_up_far (by omega)] | rw [x_up_at2 (by omega) (by omega)]))
                              clear hM
                              have hI2 : RIw I2 := by
                                obtain ⟨gs, go, ga, gb, gr, gd, gg, ge, gp, gk⟩ := id hI
                                exact ⟨gs.fr ⟨by (repeat rw [hF _ _ (by omega)]); try rfl, by (repeat rw [hF _ _ (by omega)]); try rfl, by (repeat rw [hF _ _ (by omega)]); try rfl, by (repeat rw [hF _ _ (by omega)]); try rfl, by (repeat rw [hF _ _ (by omega)]); try rfl, by (repeat rw [hF _ _ (by omega)]); try rfl, by (repeat rw [hF _ _ (by omega)]); try rfl, by (repeat rw [hF _ _ (by omega)]); try rfl, by (repeat rw [hF _ _ (by omega)]); try rfl⟩, go.fr (by intros; (repeat rw [hF _ _ (by omega)]); try rfl) (by intros; (repeat rw [hF _ _ (by omega)]); try rfl), ga.fr (by intros; (repeat rw [hF _ _ (by omega)]); try rfl) (by (repeat rw [hF _ _ (by omega)]); try rfl), gb.fr (by intros; (repeat rw [hF _ _ (by omega)]); try rfl) (by intros; (repeat rw [hF _ _ (by omega)]); try rfl), gr.fr (by intros; (repeat rw [hF _ _ (by omega)]); try rfl) (by intros; (repeat rw [hF _ _ (by omega)]); try rfl), gd.fr (by intros; (repeat rw [hF _ _ (by omega)]); try rfl) (by intros; (repeat rw [hF _ _ (by omega)]); try rfl) (by (repeat rw [hF _ _ (by omega)]); try rfl), gg.fr ⟨by (repeat rw [hF _ _ (by omega)]); try rfl, by (repeat rw [hF _ _ (by omega)]); try rfl⟩ (by intros; (repeat rw [hF _ _ (by omega)]); try rfl) (by intros; (repeat rw [hF _ _ (by omega)]); try rfl), ge.fr ⟨by (repeat rw [hF _ _ (by omega)]); try rfl, by (repeat rw [hF _ _ (by omega)]); try rfl, by (repeat rw [hF _ _ (by omega)]); try rfl⟩ (by intros; (repeat rw [hF _ _ (by omega)]); try rfl) (by intros; (repeat rw [hF _ _ (by omega)]); try rfl), gp.fr ⟨by (repeat rw [hF _ _ (by omega)]); try rfl, by (repeat rw [hF _ _ (by omega)]); try rfl, by (repeat rw [hF _ _ (by omega)]); try rfl⟩ (by intros; (repeat rw [hF _ _ (by omega)]); try rfl) (by intros; (repeat rw [hF _ _ (by omega)]); try rfl), gk.fr ⟨by (repeat rw [hF _ _ (by omega)]); try rfl, by (repeat rw [hF _ _ (by omega)]); try rfl, by (repeat rw [hF _ _ (by omega)]); try rfl⟩ (by intros; (repeat rw [hF _ _ (by omega)]); try rfl) (by intros; (repeat rw [hF _ _ (by omega)]); try rfl)⟩
                              refine ⟨⟨hNs.fr ⟨by (repeat rw [hF _ _ (by omega)]); try rfl, by (repeat rw [hF _ _ (by omega)]); try rfl, by (repeat rw [hF _ _ (by omega)]); try rfl, by (repeat rw [hF _ _ (by omega)]); try rfl, by (repeat rw [hF _ _ (by omega)]); try rfl, by (repeat rw [hF _ _ (by omega)]); try rfl, by (repeat rw [hF _ _ (by omega)]); try rfl, by (repeat rw [hF _ _ (by omega)]); try rfl, by (repeat rw [hF _ _ (by omega)]); try rfl⟩, hNo.fr (by intros; (repeat rw [hF _ _ (by omega)]); try rfl) (by intros; (repeat rw [hF _ _ (by omega)]); try rfl), hNa.fr (by intros; (repeat rw [hF _ _ (by omega)]); try rfl) (by (repeat rw [hF _ _ (by omega)]); try rfl), hNb.fr (by intros; (repeat rw [hF _ _ (by omega)]); try rfl) (by intros; (repeat rw [hF _ _ (by omega)]); try rfl), hNr.fr (by intros; (repeat rw [hF _ _ (by omega)]); try rfl) (by intros; (repeat rw [hF _ _ (by omega)]); try rfl), hNd.fr (by intros; (repeat rw [hF _ _ (by omega)]); try rfl) (by intros; (repeat rw [hF _ _ (by omega)]); try rfl) (by (repeat rw [hF _ _ (by omega)]); try rfl), hNg.fr ⟨by (repeat rw [hF _ _ (by omega)]); try rfl, by (repeat rw [hF _ _ (by omega)]); try rfl⟩ (by intros; (repeat rw [hF _ _ (by omega)]); try rfl) (by intros; (repeat rw [hF _ _ (by omega)]); try rfl), hNe.fr ⟨by (repeat rw [hF _ _ (by omega)]); try rfl, by (repeat rw [hF _ _ (by omega)]); try rfl, by (repeat rw [hF _ _ (by omega)]); try rfl⟩ (by intros; (repeat rw [hF _ _ (by omega)]); try rfl) (by intros; (repeat rw [hF _ _ (by omega)]); try rfl), ?_, hNk.fr ⟨by (repeat rw [hF _ _ (by omega)]); try rfl, by (repeat rw [hF _ _ (by omega)]); try rfl, by (repeat rw [hF _ _ (by omega)]); try rfl⟩ (by intros; (repeat rw [hF _ _ (by omega)]); try rfl) (by intros; (repeat rw [hF _ _ (by omega)]); try rfl)⟩, hI2, hT.fr ⟨by (repeat rw [hF _ _ (by omega)]); try rfl, by (repeat rw [hF _ _ (by omega)]); try rfl⟩ (by intros; (repeat rw [hF _ _ (by omega)]); try rfl) (by intros; (repeat rw [hF _ _ (by omega)]); try rfl) (by intros; (repeat rw [hF _ _ (by omega)]); try rfl), hX.fr ⟨by (repeat rw [hF _ _ (by omega)]); try rfl, by (repeat rw [hF _ _ (by omega)]); try rfl⟩ (by intros; (repeat rw [hF _ _ (by omega)]); try rfl), hC.fr ⟨by (repeat rw [hF _ _ (by omega)]); try rfl, by (repeat rw [hF _ _ (by omega)]); try rfl⟩ (by intros; (repeat rw [hF _ _ (by omega)]); try rfl), hH.fr ⟨by (repeat rw [hF _ _ (by omega)]); try rfl, by (repeat rw [hF _ _ (by omega)]); try rfl, by (repeat rw [hF _ _ (by omega)]); try rfl⟩ (by intros; (repeat rw [hF _ _ (by omega)]); try rfl) (by intros; (repeat rw [hF _ _ (by omega)]); try rfl), hQ.fr (by intros; (repeat rw [hF _ _ (by omega)]); try rfl) (by intros; (repeat rw [hF _ _ (by omega)]); try rfl) (by intros; (repeat rw [hF _ _ (by omega)]); try rfl) (by intros; (repeat rw [hF _ _ (by omega)]); try rfl)⟩
                              · refine ⟨by (repeat (first | rw [hw0] | rw [hw1] | rw [hw2] | rw [hw3] | rw [hw4] | rw [hw5] | rw [hw6] | rw [hw7] | rw [hF _ _ (by omega)])); try omega, by (repeat (first | rw [hw0] | rw [hw1] | rw [hw2] | rw [hw3] | rw [hw4] | rw [hw5] | rw [hw6] | rw [hw7] | rw [hF _ _ (by omega)])); omega, by (repeat (first | rw [hw0] | rw [hw1] | rw [hw2] | rw [hw3] | rw [hw4] | rw [hw5] | rw [hw6] | rw [hw7] | rw [hF _ _ (by omega)])); omega, by (repeat (first | rw [hw0] | rw [hw1] | rw [hw2] | rw [hw3] | rw [hw4] | rw [hw5] | rw [hw6] | rw [hw7] | rw [hF _ _ (by omega)])); try exact hz4, fun x hx => ?_⟩
                                rw [hw0] at hx
                                by_cases hxc : x = c
                                · subst hxc; (repeat (first | rw [hw0] | rw [hw1] | rw [hw2] | rw [hw3] | rw [hw4] | rw [hw5] | rw [hw6] | rw [hw7] | rw [hF _ _ (by omega)])); omega
                                · have h := hz5 x (by omega)
                                  (repeat (first | rw [hw0] | rw [hw1] | rw [hw2] | rw [hw3] | rw [hw4] | rw [hw5] | rw [hw6] | rw [hw7] | rw [hF _ _ (by omega)]))
                                  exact h
                          · exfalso; omega
                        · exfalso; omega
                      · exfalso; omega
                · exfalso; omega
              · refine ex_st 1 (pc' := 12) (ls' := [(0, xr 7), (1, xi t), (2, xi x), (3, xi 0), (4, xi 0)]) (st' := [xi 0]) rfl ?_
                refine ex_retz rfl (Or.inl rfl) rfl ?_
                refine ex_st 1 (pc' := 94) (ls' := [(0, xr 0), (1, xi t), (2, xi x)]) (st' := []) rfl ?_
                refine ex_st 1 (pc' := 96) (ls' := [(0, xr 0), (1, xi t), (2, xi x)]) (st' := [xi (-4)]) rfl ?_
                refine ex_reti rfl rfl ?_
                refine x_CQ.of (M := xM_m_plan) rfl (Nat.le_of_ble_eq_true rfl) ?_
                refine ex_st 2 (pc' := 2) (ls' := [(0, xr 143), (1, xi t), (2, xi x)]) (st' := [xi (-1), xi t]) rfl ?_
                refine ex_ic rfl (by first | omega | (constructor <;> omega) | assumption) (by decide) (fun (h16 : ¬ t = (-1)) => ?_) (fun (h16 : ¬ ¬ t = (-1)) => ?_)
                · refine ex_st 4 (pc' := 16) (ls' := [(0, xr 143), (1, xi t), (2, xi x)]) (st' := [xi 3, xi 0, xi t, xr 143]) rfl ?_
                  refine ex_call (ct_m_in (by first | omega | (constructor <;> omega) | assumption) (by first | omega | (constructor <;> omega) | assumption) (by first | omega | (constructor <;> omega) | assumption)) (by decide) rfl ⟨rfl, rfl, rfl⟩ ⟨Nat.le_of_ble_eq_true rfl, rfl, rfl⟩ (Nat.le_of_ble_eq_true rfl) rfl ?_
                  refine ex_beq rfl (fun h17 => ?_) (fun h17 => ?_)
                  · exfalso; omega
                  · refine ex_st 4 (pc' := 26) (ls' := [(0, xr 143), (1, xi t), (2, xi x)]) (st' := [xi 2, xi 1, xi t, xr 143]) rfl ?_
                    refine ex_call (ct_m_in (by first | omega | (constructor <;> omega) | assumption) (by first | omega | (constructor <;> omega) | assumption) (by first | omega | (constructor <;> omega) | assumption)) (by decide) rfl ⟨rfl, rfl, rfl⟩ ⟨Nat.le_of_ble_eq_true rfl, rfl, rfl⟩ (Nat.le_of_ble_eq_true rfl) rfl ?_
                    refine ex_beq rfl (fun h18 => ?_) (fun h18 => ?_)
                    · exfalso; omega
                    · refine ex_st 2 (pc' := 34) (ls' := [(0, xr 143), (1, xi t), (2, xi x)]) (st' := [xi x, xr 143]) rfl ?_
                      refine ex_call (ct_m_isOfficial2 (c := I 143 0) (by first | omega | (constructor <;> omega) | assumption | ((repeat rw [x_up_far (by omega)]); first | rfl | omega | (constructor <;> omega))) (by (repeat rw [x_up_far (by omega)]); try rfl) (by first | omega | (constructor <;> omega) | assumption | ((repeat rw [x_up_far (by omega)]); first | rfl | omega | (constructor <;> omega)))) (by decide) rfl ⟨rfl, rfl, rfl⟩ ⟨Nat.le_of_ble_eq_true rfl, rfl, rfl⟩ (Nat.le_of_ble_eq_true rfl) rfl ?_
                      refine ex_bne rfl (fun h19 => ?_) (fun h19 => ?_)
                      · refine ex_st 2 (pc' := 44) (ls' := [(0, xr 143), (1, xi t), (2, xi x)]) (st' := [xi 3, xi t]) rfl ?_
                        refine ex_ic rfl (by first | omega | (constructor <;> omega) | assumption) (by decide) (fun (h20 : ¬ t = 3) => ?_) (fun (h20 : ¬ ¬ t = 3) => ?_)
                        · refine ex_st 2 (pc' := 62) (ls' := [(0, xr 143), (1, xi t), (2, xi x)]) (st' := [xi (I 143 43)]) rfl ?_
                          rw [hc0]
                          refine ex_st 1 (pc' := 64) (ls' := [(0, xr 143), (1, xi t), (2, xi x)]) (st' := [xi 10, xi (↑c)]) rfl ?_
                          refine ex_ic rfl (by first | omega | (constructor <;> omega) | assumption) (by decide) (fun (h21 : ¬ (↑c : Int) = 10) => ?_) (fun (h21 : ¬ ¬ (↑c : Int) = 10) => ?_)
                          · exfalso; omega
                          · refine ex_st 1 (pc' := 69) (ls' := [(0, xr 143), (1, xi t), (2, xi x)]) (st' := [xi (-4)]) rfl ?_
                            refine ex_reti rfl rfl ?_
                            exact ⟨x_req (by first | rfl | omega), _, _, rfl, hR⟩
                        · exfalso; omega
                      · exfalso; omega
                · exfalso; omega
            · exfalso; omega
          · refine ex_st 1 (pc' := 48) (ls' := [(0, xr 0), (1, xi t), (2, xi x)]) (st' := [xi (-1)]) rfl ?_
            refine ex_reti rfl rfl ?_
            refine x_CQ.of (M := xM_m_plan) rfl (Nat.le_of_ble_eq_true rfl) ?_
            refine ex_st 2 (pc' := 2) (ls' := [(0, xr 143), (1, xi t), (2, xi x)]) (st' := [xi (-1), xi t]) rfl ?_
            refine ex_ic rfl (by first | omega | (constructor <;> omega) | assumption) (by decide) (fun (h22 : ¬ t = (-1)) => ?_) (fun (h22 : ¬ ¬ t = (-1)) => ?_)
            · refine ex_st 4 (pc' := 16) (ls' := [(0, xr 143), (1, xi t), (2, xi x)]) (st' := [xi 3, xi 0, xi t, xr 143]) rfl ?_
              refine ex_call (ct_m_in (by first | omega | (constructor <;> omega) | assumption) (by first | omega | (constructor <;> omega) | assumption) (by first | omega | (constructor <;> omega) | assumption)) (by decide) rfl ⟨rfl, rfl, rfl⟩ ⟨Nat.le_of_ble_eq_true rfl, rfl, rfl⟩ (Nat.le_of_ble_eq_true rfl) rfl ?_
              refine ex_beq rfl (fun h23 => ?_) (fun h23 => ?_)
              · exfalso; omega
              · refine ex_st 4 (pc' := 26) (ls' := [(0, xr 143), (1, xi t), (2, xi x)]) (st' := [xi 2, xi 1, xi t, xr 143]) rfl ?_
                refine ex_call (ct_m_in (by first | omega | (constructor <;> omega) | assumption) (by first | omega | (constructor <;> omega) | assumption) (by first | omega | (constructor <;> omega) | assumption)) (by decide) rfl ⟨rfl, rfl, rfl⟩ ⟨Nat.le_of_ble_eq_true rfl, rfl, rfl⟩ (Nat.le_of_ble_eq_true rfl) rfl ?_
                refine ex_beq rfl (fun h24 => ?_) (fun h24 => ?_)
                · exfalso; omega
                · refine ex_st 2 (pc' := 34) (ls' := [(0, xr 143), (1, xi t), (2, xi x)]) (st' := [xi x, xr 143]) rfl ?_
                  refine ex_call (ct_m_isOfficial2 (c := I 143 0) (by first | omega | (constructor <;> omega) | assumption | ((repeat rw [x_up_far (by omega)]); first | rfl | omega | (constructor <;> omega))) (by (repeat rw [x_up_far (by omega)]); try rfl) (by first | omega | (constructor <;> omega) | assumption | ((repeat rw [x_up_far (by omega)]); first | rfl | omega | (constructor <;> omega)))) (by decide) rfl ⟨rfl, rfl, rfl⟩ ⟨Nat.le_of_ble_eq_true rfl, rfl, rfl⟩ (Nat.le_of_ble_eq_true rfl) rfl ?_
                  refine ex_bne rfl (fun h25 => ?_) (fun h25 => ?_)
                  · exfalso; omega
                  · refine ex_st 1 (pc' := 41) (ls' := [(0, xr 143), (1, xi t), (2, xi x)]) (st' := [xi (-1)]) rfl ?_
                    refine ex_reti rfl rfl ?_
                    exact ⟨x_req (by first | rfl | omega), _, _, rfl, hR⟩
            · exfalso; omega
        · refine ex_st 2 (pc' := 36) (ls' := [(0, xr 0), (1, xi t), (2, xi x)]) (st' := [xi 2, xi t]) rfl ?_
          refine ex_ic rfl (by first | omega | (constructor <;> omega) | assumption) (by decide) (fun (h26 : ¬ t = 2) => ?_) (fun (h26 : ¬ ¬ t = 2) => ?_)
          · refine ex_st 2 (pc' := 51) (ls' := [(0, xr 0), (1, xi t), (2, xi x)]) (st' := [xi 3, xi t]) rfl ?_
            refine ex_ic rfl (by first | omega | (constructor <;> omega) | assumption) (by decide) (fun (h27 : ¬ t = 3) => ?_) (fun (h27 : ¬ ¬ t = 3) => ?_)
            · refine ex_st 7 (pc' := 75) (ls' := [(0, xr 0), (1, xi t), (2, xi x)]) (st' := [xi 0, xi 0, xi x, xi t, xr 7]) rfl ?_
              refine ex_inl (M' := xM_Rw_add) (as := [xr 7, xi t, xi x, xi 0, xi 0]) (rest := []) (D' := 28) rfl (Nat.le_of_ble_eq_true rfl) (by decide) rfl ⟨rfl, rfl, rfl⟩ ⟨Nat.le_of_ble_eq_true rfl, rfl, rfl⟩ (Nat.le_of_ble_eq_true rfl) rfl ?_
              refine ex_st 2 (pc' := 4) (ls' := [(0, xr 7), (1, xi t), (2, xi x), (3, xi 0), (4, xi 0)]) (st' := [xi (I 7 2)]) rfl ?_
              rw [hc1]
              refine ex_st 2 (pc' := 8) (ls' := [(0, xr 7), (1, xi t), (2, xi x), (3, xi 0), (4, xi 0)]) (st' := [xi (I 7 0), xi (↑c)]) rfl ?_
              rw [hz4]
              refine ex_ic rfl (by first | omega | (constructor <;> omega) | assumption) (by decide) (fun (h28 : (↑c : Int) < 10) => ?_) (fun (h28 : ¬ (↑c : Int) < 10) => ?_)
              · refine ex_st 4 (pc' := 21) (ls' := [(0, xr 7), (1, xi t), (2, xi x), (3, xi 0), (4, xi 0)]) (st' := [xi (I 7 2), xr 8]) rfl ?_
                rw [hc1]
                refine ex_st 3 (pc' := 24) (ls' := [(0, xr 7), (1, xi t), (2, xi x), (3, xi 0), (4, xi 0)]) (st' := [xi t, xi ((↑c) * 4), xr 8]) rfl ?_
                refine ex_iast (j := ((c) * 4)) rfl (by decide) (rfl : xSH[8]? = some _) (by omega) (by omega) (by decide) ?_
                refine ex_st 4 (pc' := 33) (ls' := [(0, xr 7), (1, xi t), (2, xi x), (3, xi 0), (4, xi 0)]) (st' := [xi ((x_up I 8 ((c) * 4) t) 7 2), xr 8]) rfl ?_
                rw [(x_up_far (by first | decide | omega) : (x_up I 8 ((c) * 4) t) 7 2 = I 7 2)]
                rw [hc1]
                refine ex_st 5 (pc' := 38) (ls' := [(0, xr 7), (1, xi t), (2, xi x), (3, xi 0), (4, xi 0)]) (st' := [xi x, xi (((↑c) * 4) + 1), xr 8]) rfl ?_
                refine ex_iast (j := (((c) * 4) + 1)) rfl (by decide) (rfl : xSH[8]? = some _) (by omega) (by omega) (by decide) ?_
                refine ex_st 4 (pc' := 47) (ls' := [(0, xr 7), (1, xi t), (2, xi x), (3, xi 0), (4, xi 0)]) (st' := [xi ((x_up (x_up I 8 ((c) * 4) t) 8 (((c) * 4) + 1) x) 7 2), xr 8]) rfl ?_
                rw [(x_up_far (by first | decide | omega) : (x_up (x_up I 8 ((c) * 4) t) 8 (((c) * 4) + 1) x) 7 2 = (x_up I 8 ((c) * 4) t) 7 2)]
                rw [(x_up_far (by first | decide | omega) : (x_up I 8 ((c) * 4) t) 7 2 = I 7 2)]
                rw [hc1]
                refine ex_st 5 (pc' := 52) (ls' := [(0, xr 7), (1, xi t), (2, xi x), (3, xi 0), (4, xi 0)]) (st' := [xi 0, xi (((↑c) * 4) + 2), xr 8]) rfl ?_
                refine ex_iast (j := (((c) * 4) + 2)) rfl (by decide) (rfl : xSH[8]? = some _) (by omega) (by omega) (by decide) ?_
                refine ex_st 4 (pc' := 61) (ls' := [(0, xr 7), (1, xi t), (2, xi x), (3, xi 0), (4, xi 0)]) (st' := [xi ((x_up (x_up (x_up I 8 ((c) * 4) t) 8 (((c) * 4) + 1) x) 8 (((c) * 4) + 2) 0) 7 2), xr 8]) rfl ?_
                rw [(x_up_far (by first | decide | omega) : (x_up (x_up (x_up I 8 ((c) * 4) t) 8 (((c) * 4) + 1) x) 8 (((c) * 4) + 2) 0) 7 2 = (x_up (x_up I 8 ((c) * 4) t) 8 (((c) * 4) + 1) x) 7 2)]
                rw [(x_up_far (by first | decide | omega) : (x_up (x_up I 8 ((c) * 4) t) 8 (((c) * 4) + 1) x) 7 2 = (x_up I 8 ((c) * 4) t) 7 2)]
                rw [(x_up_far (by first | decide | omega) : (x_up I 8 ((c) * 4) t) 7 2 = I 7 2)]
                rw [hc1]
                refine ex_st 5 (pc' := 67) (ls' := [(0, xr 7), (1, xi t), (2, xi x), (3, xi 0), (4, xi 0)]) (st' := [xi 0, xi (((↑c) * 4) + 3), xr 8]) rfl ?_
                refine ex_iast (j := (((c) * 4) + 3)) rfl (by decide) (rfl : xSH[8]? = some _) (by omega) (by omega) (by decide) ?_
                refine ex_st 3 (pc' := 73) (ls' := [(0, xr 7), (1, xi t), (2, xi x), (3, xi 0), (4, xi 0)]) (st' := [xi ((x_up (x_up (x_up (x_up I 8 ((c) * 4) t) 8 (((c) * 4) + 1) x) 8 (((c) * 4) + 2) 0) 8 (((c) * 4) + 3) 0) 7 2), xr 7]) rfl ?_
                rw [(x_up_far (by first | decide | omega) : (x_up (x_up (x_up (x_up I 8 ((c) * 4) t) 8 (((c) * 4) + 1) x) 8 (((c) * 4) + 2) 0) 8 (((c) * 4) + 3) 0) 7 2 = (x_up (x_up (x_up I 8 ((c) * 4) t) 8 (((c) * 4) + 1) x) 8 (((c) * 4) + 2) 0) 7 2)]
                rw [(x_up_far (by first | decide | omega) : (x_up (x_up (x_up I 8 ((c) * 4) t) 8 (((c) * 4) + 1) x) 8 (((c) * 4) + 2) 0) 7 2 = (x_up (x_up I 8 ((c) * 4) t) 8 (((c) * 4) + 1) x) 7 2)]
                rw [(x_up_far (by first | decide | omega) : (x_up (x_up I 8 ((c) * 4) t) 8 (((c) * 4) + 1) x) 7 2 = (x_up I 8 ((c) * 4) t) 7 2)]
                rw [(x_up_far (by first | decide | omega) : (x_up I 8 ((c) * 4) t) 7 2 = I 7 2)]
                rw [hc1]
                refine ex_st 2 (pc' := 75) (ls' := [(0, xr 7), (1, xi t), (2, xi x), (3, xi 0), (4, xi 0)]) (st' := [xi ((↑c) + 1), xr 7]) rfl ?_
                refine ex_pfi rfl (by decide) (rfl : xSH[7]? = some _) (by decide) rfl (by decide) (fun h => by cases h) ?_
                refine ex_st 1 (pc' := 79) (ls' := [(0, xr 7), (1, xi t), (2, xi x), (3, xi 0), (4, xi 0)]) (st' := [xi 1]) rfl ?_
                refine ex_retz rfl (Or.inr rfl) rfl ?_
                refine ex_st 1 (pc' := 81) (ls' := [(0, xr 0), (1, xi t), (2, xi x)]) (st' := []) rfl ?_
                refine ex_st 4 (pc' := 91) (ls' := [(0, xr 0), (1, xi t), (2, xi x)]) (st' := [xi ((x_up (x_up (x_up (x_up (x_up I 8 ((c) * 4) t) 8 (((c) * 4) + 1) x) 8 (((c) * 4) + 2) 0) 8 (((c) * 4) + 3) 0) 7 2 ((↑c) + 1)) 7 2)]) rfl ?_
                rw [x_up_at (x_up (x_up (x_up (x_up I 8 ((c) * 4) t) 8 (((c) * 4) + 1) x) 8 (((c) * 4) + 2) 0) 8 (((c) * 4) + 3) 0) 7 2 ((↑c) + 1)]
                refine ex_st 1 (pc' := 96) (ls' := [(0, xr 0), (1, xi t), (2, xi x)]) (st' := [xi ((↑c) + 1)]) rfl ?_
                refine ex_reti rfl rfl ?_
                refine x_CQ.of (M := xM_m_plan) rfl (Nat.le_of_ble_eq_true rfl) ?_
                refine ex_st 2 (pc' := 2) (ls' := [(0, xr 143), (1, xi t), (2, xi x)]) (st' := [xi (-1), xi t]) rfl ?_
                refine ex_ic rfl (by first | omega | (constructor <;> omega) | assumption) (by decide) (fun (h29 : ¬ t = (-1)) => ?_) (fun (h29 : ¬ ¬ t = (-1)) => ?_)
                · refine ex_st 4 (pc' := 16) (ls' := [(0, xr 143), (1, xi t), (2, xi x)]) (st' := [xi 3, xi 0, xi t, xr 143]) rfl ?_
                  refine ex_call (ct_m_in (by first | omega | (constructor <;> omega) | assumption) (by first | omega | (constructor <;> omega) | assumption) (by first | omega | (constructor <;> omega) | assumption)) (by decide) rfl ⟨rfl, rfl, rfl⟩ ⟨Nat.le_of_ble_eq_true rfl, rfl, rfl⟩ (Nat.le_of_ble_eq_true rfl) rfl ?_
                  refine ex_beq rfl (fun h30 => ?_) (fun h30 => ?_)
                  · exfalso; omega
                  · refine ex_st 4 (pc' := 26) (ls' := [(0, xr 143), (1, xi t), (2, xi x)]) (st' := [xi 2, xi 1, xi t, xr 143]) rfl ?_
                    refine ex_call (ct_m_in (by first | omega | (constructor <;> omega) | assumption) (by first | omega | (constructor <;> omega) | assumption) (by first | omega | (constructor <;> omega) | assumption)) (by decide) rfl ⟨rfl, rfl, rfl⟩ ⟨Nat.le_of_ble_eq_true rfl, rfl, rfl⟩ (Nat.le_of_ble_eq_true rfl) rfl ?_
                    refine ex_beq rfl (fun h31 => ?_) (fun h31 => ?_)
                    · refine ex_st 2 (pc' := 44) (ls' := [(0, xr 143), (1, xi t), (2, xi x)]) (st' := [xi 3, xi t]) rfl ?_
                      refine ex_ic rfl (by first | omega | (constructor <;> omega) | assumption) (by decide) (fun (h32 : ¬ t = 3) => ?_) (fun (h32 : ¬ ¬ t = 3) => ?_)
                      · refine ex_st 2 (pc' := 62) (ls' := [(0, xr 143), (1, xi t), (2, xi x)]) (st' := [xi ((x_up (x_up (x_up (x_up (x_up I 8 ((c) * 4) t) 8 (((c) * 4) + 1) x) 8 (((c) * 4) + 2) 0) 8 (((c) * 4) + 3) 0) 7 2 ((↑c) + 1)) 143 43)]) rfl ?_
                        rw [(x_up_far (by first | decide | omega) : (x_up (x_up (x_up (x_up (x_up I 8 ((c) * 4) t) 8 (((c) * 4) + 1) x) 8 (((c) * 4) + 2) 0) 8 (((c) * 4) + 3) 0) 7 2 ((↑c) + 1)) 143 43 = (x_up (x_up (x_up (x_up I 8 ((c) * 4) t) 8 (((c) * 4) + 1) x) 8 (((c) * 4) + 2) 0) 8 (((c) * 4) + 3) 0) 143 43)]
                        rw [(x_up_far (by first | decide | omega) : (x_up (x_up (x_up (x_up I 8 ((c) * 4) t) 8 (((c) * 4) + 1) x) 8 (((c) * 4) + 2) 0) 8 (((c) * 4) + 3) 0) 143 43 = (x_up (x_up (x_up I 8 ((c) * 4) t) 8 (((c) * 4) + 1) x) 8 (((c) * 4) + 2) 0) 143 43)]
                        rw [(x_up_far (by first | decide | omega) : (x_up (x_up (x_up I 8 ((c) * 4) t) 8 (((c) * 4) + 1) x) 8 (((c) * 4) + 2) 0) 143 43 = (x_up (x_up I 8 ((c) * 4) t) 8 (((c) * 4) + 1) x) 143 43)]
                        rw [(x_up_far (by first | decide | omega) : (x_up (x_up I 8 ((c) * 4) t) 8 (((c) * 4) + 1) x) 143 43 = (x_up I 8 ((c) * 4) t) 143 43)]
                        rw [(x_up_far (by first | decide | omega) : (x_up I 8 ((c) * 4) t) 143 43 = I 143 43)]
                        rw [hc0]
                        refine ex_st 1 (pc' := 64) (ls' := [(0, xr 143), (1, xi t), (2, xi x)]) (st' := [xi 10, xi (↑c)]) rfl ?_
                        refine ex_ic rfl (by first | omega | (constructor <;> omega) | assumption) (by decide) (fun (h33 : ¬ (↑c : Int) = 10) => ?_) (fun (h33 : ¬ ¬ (↑c : Int) = 10) => ?_)
                        · refine ex_st 4 (pc' := 78) (ls' := [(0, xr 143), (1, xi t), (2, xi x)]) (st' := [xi ((x_up (x_up (x_up (x_up (x_up I 8 ((c) * 4) t) 8 (((c) * 4) + 1) x) 8 (((c) * 4) + 2) 0) 8 (((c) * 4) + 3) 0) 7 2 ((↑c) + 1)) 143 43), xr 169]) rfl ?_
                          rw [(x_up_far (by first | decide | omega) : (x_up (x_up (x_up (x_up (x_up I 8 ((c) * 4) t) 8 (((c) * 4) + 1) x) 8 (((c) * 4) + 2) 0) 8 (((c) * 4) + 3) 0) 7 2 ((↑c) + 1)) 143 43 = (x_up (x_up (x_up (x_up I 8 ((c) * 4) t) 8 (((c) * 4) + 1) x) 8 (((c) * 4) + 2) 0) 8 (((c) * 4) + 3) 0) 143 43)]
                          rw [(x_up_far (by first | decide | omega) : (x_up (x_up (x_up (x_up I 8 ((c) * 4) t) 8 (((c) * 4) + 1) x) 8 (((c) * 4) + 2) 0) 8 (((c) * 4) + 3) 0) 143 43 = (x_up (x_up (x_up I 8 ((c) * 4) t) 8 (((c) * 4) + 1) x) 8 (((c) * 4) + 2) 0) 143 43)]
                          rw [(x_up_far (by first | decide | omega) : (x_up (x_up (x_up I 8 ((c) * 4) t) 8 (((c) * 4) + 1) x) 8 (((c) * 4) + 2) 0) 143 43 = (x_up (x_up I 8 ((c) * 4) t) 8 (((c) * 4) + 1) x) 143 43)]
                          rw [(x_up_far (by first | decide | omega) : (x_up (x_up I 8 ((c) * 4) t) 8 (((c) * 4) + 1) x) 143 43 = (x_up I 8 ((c) * 4) t) 143 43)]
                          rw [(x_up_far (by first | decide | omega) : (x_up I 8 ((c) * 4) t) 143 43 = I 143 43)]
                          rw [hc0]
                          refine ex_st 1 (pc' := 79) (ls' := [(0, xr 143), (1, xi t), (2, xi x)]) (st' := [xi t, xi (↑c), xr 169]) rfl ?_
                          refine ex_iast (j := c) rfl (by decide) (rfl : xSH[169]? = some _) (by omega) (by omega) (by decide) ?_
                          refine ex_st 4 (pc' := 88) (ls' := [(0, xr 143), (1, xi t), (2, xi x)]) (st' := [xi ((x_up (x_up (x_up (x_up (x_up (x_up I 8 ((c) * 4) t) 8 (((c) * 4) + 1) x) 8 (((c) * 4) + 2) 0) 8 (((c) * 4) + 3) 0) 7 2 ((↑c) + 1)) 169 c t) 143 43), xr 170]) rfl ?_
                          rw [(x_up_far (by first | decide | omega) : (x_up (x_up (x_up (x_up (x_up (x_up I 8 ((c) * 4) t) 8 (((c) * 4) + 1) x) 8 (((c) * 4) + 2) 0) 8 (((c) * 4) + 3) 0) 7 2 ((↑c) + 1)) 169 c t) 143 43 = (x_up (x_up (x_up (x_up (x_up I 8 ((c) * 4) t) 8 (((c) * 4) + 1) x) 8 (((c) * 4) + 2) 0) 8 (((c) * 4) + 3) 0) 7 2 ((↑c) + 1)) 143 43)]
                          rw [(x_up_far (by first | decide | omega) : (x_up (x_up (x_up (x_up (x_up I 8 ((c) * 4) t) 8 (((c) * 4) + 1) x) 8 (((c) * 4) + 2) 0) 8 (((c) * 4) + 3) 0) 7 2 ((↑c) + 1)) 143 43 = (x_up (x_up (x_up (x_up I 8 ((c) * 4) t) 8 (((c) * 4) + 1) x) 8 (((c) * 4) + 2) 0) 8 (((c) * 4) + 3) 0) 143 43)]
                          rw [(x_up_far (by first | decide | omega) : (x_up (x_up (x_up (x_up I 8 ((c) * 4) t) 8 (((c) * 4) + 1) x) 8 (((c) * 4) + 2) 0) 8 (((c) * 4) + 3) 0) 143 43 = (x_up (x_up (x_up I 8 ((c) * 4) t) 8 (((c) * 4) + 1) x) 8 (((c) * 4) + 2) 0) 143 43)]
                          rw [(x_up_far (by first | decide | omega) : (x_up (x_up (x_up I 8 ((c) * 4) t) 8 (((c) * 4) + 1) x) 8 (((c) * 4) + 2) 0) 143 43 = (x_up (x_up I 8 ((c) * 4) t) 8 (((c) * 4) + 1) x) 143 43)]
                          rw [(x_up_far (by first | decide | omega) : (x_up (x_up I 8 ((c) * 4) t) 8 (((c) * 4) + 1) x) 143 43 = (x_up I 8 ((c) * 4) t) 143 43)]
                          rw [(x_up_far (by first | decide | omega) : (x_up I 8 ((c) * 4) t) 143 43 = I 143 43)]
                          rw [hc0]
                          refine ex_st 1 (pc' := 89) (ls' := [(0, xr 143), (1, xi t), (2, xi x)]) (st' := [xi t, xi (↑c), xr 170]) rfl ?_
                          refine ex_if rfl (by first | omega | (constructor <;> omega) | assumption) (fun (h34 : t ≤ 0) => ?_) (fun (h34 : ¬ t ≤ 0) => ?_)
                          · refine ex_st 1 (pc' := 97) (ls' := [(0, xr 143), (1, xi t), (2, xi x)]) (st' := [xi 0, xi (↑c), xr 170]) rfl ?_
                            refine ex_iast (j := c) rfl (by decide) (rfl : xSH[170]? = some _) (by omega) (by omega) (by decide) ?_
                            refine ex_st 3 (pc' := 103) (ls' := [(0, xr 143), (1, xi t), (2, xi x)]) (st' := [xi ((x_up (x_up (x_up (x_up (x_up (x_up (x_up I 8 ((c) * 4) t) 8 (((c) * 4) + 1) x) 8 (((c) * 4) + 2) 0) 8 (((c) * 4) + 3) 0) 7 2 ((↑c) + 1)) 169 c t) 170 c 0) 143 43), xr 143]) rfl ?_
                            rw [(x_up_far (by first | decide | omega) : (x_up (x_up (x_up (x_up (x_up (x_up (x_up I 8 ((c) * 4) t) 8 (((c) * 4) + 1) x) 8 (((c) * 4) + 2) 0) 8 (((c) * 4) + 3) 0) 7 2 ((↑c) + 1)) 169 c t) 170 c 0) 143 43 = (x_up (x_up (x_up (x_up (x_up (x_up I 8 ((c) * 4) t) 8 (((c) * 4) + 1) x) 8 (((c) * 4) + 2) 0) 8 (((c) * 4) + 3) 0) 7 2 ((↑c) + 1)) 169 c t) 143 43)]
                            rw [(x_up_far (by first | decide | omega) : (x_up (x_up (x_up (x_up (x_up (x_up I 8 ((c) * 4) t) 8 (((c) * 4) + 1) x) 8 (((c) * 4) + 2) 0) 8 (((c) * 4) + 3) 0) 7 2 ((↑c) + 1)) 169 c t) 143 43 = (x_up (x_up (x_up (x_up (x_up I 8 ((c) * 4) t) 8 (((c) * 4) + 1) x) 8 (((c) * 4) + 2) 0) 8 (((c) * 4) + 3) 0) 7 2 ((↑c) + 1)) 143 43)]
                            rw [(x_up_far (by first | decide | omega) : (x_up (x_up (x_up (x_up (x_up I 8 ((c) * 4) t) 8 (((c) * 4) + 1) x) 8 (((c) * 4) + 2) 0) 8 (((c) * 4) + 3) 0) 7 2 ((↑c) + 1)) 143 43 = (x_up (x_up (x_up (x_up I 8 ((c) * 4) t) 8 (((c) * 4) + 1) x) 8 (((c) * 4) + 2) 0) 8 (((c) * 4) + 3) 0) 143 43)]
                            rw [(x_up_far (by first | decide | omega) : (x_up (x_up (x_up (x_up I 8 ((c) * 4) t) 8 (((c) * 4) + 1) x) 8 (((c) * 4) + 2) 0) 8 (((c) * 4) + 3) 0) 143 43 = (x_up (x_up (x_up I 8 ((c) * 4) t) 8 (((c) * 4) + 1) x) 8 (((c) * 4) + 2) 0) 143 43)]
                            rw [(x_up_far (by first | decide | omega) : (x_up (x_up (x_up I 8 ((c) * 4) t) 8 (((c) * 4) + 1) x) 8 (((c) * 4) + 2) 0) 143 43 = (x_up (x_up I 8 ((c) * 4) t) 8 (((c) * 4) + 1) x) 143 43)]
                            rw [(x_up_far (by first | decide | omega) : (x_up (x_up I 8 ((c) * 4) t) 8 (((c) * 4) + 1) x) 143 43 = (x_up I 8 ((c) * 4) t) 143 43)]
                            rw [(x_up_far (by first | decide | omega) : (x_up I 8 ((c) * 4) t) 143 43 = I 143 43)]
                            rw [hc0]
                            refine ex_st 2 (pc' := 105) (ls' := [(0, xr 143), (1, xi t), (2, xi x)]) (st' := [xi ((↑c) + 1), xr 143]) rfl ?_
                            refine ex_pfi rfl (by decide) (rfl : xSH[143]? = some _) (by decide) rfl (by decide) (fun h => by cases h) ?_
                            refine ex_st 2 (pc' := 112) (ls' := [(0, xr 143), (1, xi t), (2, xi x)]) (st' := [xi ((x_up (x_up (x_up (x_up (x_up (x_up (x_up (x_up I 8 ((c) * 4) t) 8 (((c) * 4) + 1) x) 8 (((c) * 4) + 2) 0) 8 (((c) * 4) + 3) 0) 7 2 ((↑c) + 1)) 169 c t) 170 c 0) 143 43 ((↑c) + 1)) 143 43)]) rfl ?_
                            rw [x_up_at (x_up (x_up (x_up (x_up (x_up (x_up (x_up I 8 ((c) * 4) t) 8 (((c) * 4) + 1) x) 8 (((c) * 4) + 2) 0) 8 (((c) * 4) + 3) 0) 7 2 ((↑c) + 1)) 169 c t) 170 c 0) 143 43 ((↑c) + 1)]
                            refine ex_reti rfl rfl ?_
                            refine ⟨x_req (by first | rfl | omega), ?_⟩
                            refine ⟨_, _, rfl, ?_⟩
                            generalize hM : (x_up (x_up (x_up (x_up (x_up (x_up (x_up (x_up I 8 ((c) * 4) t) 8 (((c) * 4) + 1) x) 8 (((c) * 4) + 2) 0) 8 (((c) * 4) + 3) 0) 7 2 ((↑c) + 1)) 169 c t) 170 c 0) 143 43 ((↑c) + 1)) = I2
                            have hF : ∀ k j, ¬ ((k = 143 ∧ j = 43) ∨ (k = 170 ∧ j = c) ∨ (k = 169 ∧ j = c) ∨ (k = 7 ∧ j = 2) ∨ (k = 8 ∧ j = ((c) * 4) + 3) ∨ (k = 8 ∧ j = ((c) * 4) + 2) ∨ (k = 8 ∧ j = ((c) * 4) + 1) ∨ (k = 8 ∧ j = (c) * 4)) → I2 k j = I k j := by intro k j hk; rw [← hM]; (repeat rw [x_up_far (by omega)])
                            have hw0 : I2 143 43 = ((↑c) + 1) := by rw [← hM]; (repeat (first | rw [x_up_far (by omega)] | rw [x_up_at2 (by omega) (by omega)]))
                            have hw1 : I2 170 c = 0 := by rw [← hM]; (repeat (first | rw [x_up_far (by omega)] | rw [x_up_at2 (by omega) (by omega)]))
                            have hw2 : I2 169 c = t := by rw [← hM]; (repeat (first | rw [x_up_far (by omega)] | rw [x_up_at2 (by omega) (by omega)]))
                            have hw3 : I2 7 2 = ((↑c) + 1) := by rw [← hM]; (repeat (first | rw [x_up_far (by omega)] | rw [x_up_at2 (by omega) (by omega)]))
                            have hw4 : I2 8 (((c) * 4) + 3) = 0 := by rw [← hM]; (repeat (first | rw [x_up_far (by omega)] | rw [x_up_at2 (by omega) (by omega)]))
                            have hw5 : I2 8 (((c) * 4) + 2) = 0 := by rw [← hM]; (repeat (first | rw [x_up_far (by omega)] | rw [x_up_at2 (by omega) (by omega)]))
                            have hw6 : I2 8 (((c) * 4) + 1) = x := by rw [← hM]; (repeat (first | rw [x_up_far (by omega)] | rw [x_up_at2 (by omega) (by omega)]))
                            have hw7 : I2 8 ((c) * 4) = t := by rw [← hM]; (repeat (first | rw [x_up_far (by omega)] | rw [x_up_at2 (by omega) (by omega)]))
                            clear hM
                            have hI2 : RIw I2 := by
                              obtain ⟨gs, go, ga, gb, gr, gd, gg, ge, gp, gk⟩ := id hI
                              exact ⟨gs.fr ⟨by (repeat rw [hF _ _ (by omega)]); try rfl, by (repeat rw [hF _ _ (by omega)]); try rfl, by (repeat rw [hF _ _ (by omega)]); try rfl, by (repeat rw [hF _ _ (by omega)]); try rfl, by (repeat rw [hF _ _ (by omega)]); try rfl, by (repeat rw [hF _ _ (by omega)]); try rfl, by (repeat rw [hF _ _ (by omega)]); try rfl, by (repeat rw [hF _ _ (by omega)]); try rfl, by (repeat rw [hF _ _ (by omega)]); try rfl⟩, go.fr (by intros; (repeat rw [hF _ _ (by omega)]); try rfl) (by intros; (repeat rw [hF _ _ (by omega)]); try rfl), ga.fr (by intros; (repeat rw [hF _ _ (by omega)]); try rfl) (by (repeat rw [hF _ _ (by omega)]); try rfl), gb.fr (by intros; (repeat rw [hF _ _ (by omega)]); try rfl) (by intros; (repeat rw [hF _ _ (by omega)]); try rfl), gr.fr (by intros; (repeat rw [hF _ _ (by omega)]); try rfl) (by intros; (repeat rw [hF _ _ (by omega)]); try rfl), gd.fr (by intros; (repeat rw [hF _ _ (by omega)]); try rfl) (by intros; (repeat rw [hF _ _ (by omega)]); try rfl) (by (repeat rw [hF _ _ (by omega)]); try rfl), gg.fr ⟨by (repeat rw [hF _ _ (by omega)]); try rfl, by (repeat rw [hF _ _ (by omega)]); try rfl⟩ (by intros; (repeat rw [hF _ _ (by omega)]); try rfl) (by intros; (repeat rw [hF _ _ (by omega)]); try rfl), ge.fr ⟨by (repeat rw [hF _ _ (by omega)]); try rfl, by (repeat rw [hF _ _ (by omega)]); try rfl, by (repeat rw [hF _ _ (by omega)]); try rfl⟩ (by intros; (repeat rw [hF _ _ (by omega)]); try rfl) (by intros; (repeat rw [hF _ _ (by omega)]); try rfl), gp.fr ⟨by (repeat rw [hF _ _ (by omega)]); try rfl, by (repeat rw [hF _ _ (by omega)]); try rfl, by (repeat rw [hF _ _ (by omega)]); try rfl⟩ (by intros; (repeat rw [hF _ _ (by omega)]); try rfl) (by intros; (repeat rw [hF _ _ (by omega)]); try rfl), gk.fr ⟨by (repeat rw [hF _ _ (by omega)]); try rfl, by (repeat rw [hF _ _ (by omega)]); try rfl, by (repeat rw [hF _ _ (by omega)]); try rfl⟩ (by intros; (repeat rw [hF _ _ (by omega)]); try rfl) (by intros; (repeat rw [hF _ _ (by omega)]); try rfl)⟩
                            refine ⟨⟨hNs.fr ⟨by (repeat rw [hF _ _ (by omega)]); try rfl, by (repeat rw [hF _ _ (by omega)]); try rfl, by (repeat rw [hF _ _ (by omega)]); try rfl, by (repeat rw [hF _ _ (by omega)]); try rfl, by (repeat rw [hF _ _ (by omega)]); try rfl, by (repeat rw [hF _ _ (by omega)]); try rfl, by (repeat rw [hF _ _ (by omega)]); try rfl, by (repeat rw [hF _ _ (by omega)]); try rfl, by (repeat rw [hF _ _ (by omega)]); try rfl⟩, hNo.fr (by intros; (repeat rw [hF _ _ (by omega)]); try rfl) (by intros; (repeat rw [hF _ _ (by omega)]); try rfl), hNa.fr (by intros; (repeat rw [hF _ _ (by omega)]); try rfl) (by (repeat rw [hF _ _ (by omega)]); try rfl), hNb.fr (by intros; (repeat rw [hF _ _ (by omega)]); try rfl) (by intros; (repeat rw [hF _ _ (by omega)]); try rfl), hNr.fr (by intros; (repeat rw [hF _ _ (by omega)]); try rfl) (by intros; (repeat rw [hF _ _ (by omega)]); try rfl), hNd.fr (by intros; (repeat rw [hF _ _ (by omega)]); try rfl) (by intros; (repeat rw [hF _ _ (by omega)]); try rfl) (by (repeat rw [hF _ _ (by omega)]); try rfl), hNg.fr ⟨by (repeat rw [hF _ _ (by omega)]); try rfl, by (repeat rw [hF _ _ (by omega)]); try rfl⟩ (by intros; (repeat rw [hF _ _ (by omega)]); try rfl) (by intros; (repeat rw [hF _ _ (by omega)]); try rfl), hNe.fr ⟨by (repeat rw [hF _ _ (by omega)]); try rfl, by (repeat rw [hF _ _ (by omega)]); try rfl, by (repeat rw [hF _ _ (by omega)]); try rfl⟩ (by intros; (repeat rw [hF _ _ (by omega)]); try rfl) (by intros; (repeat rw [hF _ _ (by omega)]); try rfl), ?_, hNk.fr ⟨by (repeat rw [hF _ _ (by omega)]); try rfl, by (repeat rw [hF _ _ (by omega)]); try rfl, by (repeat rw [hF _ _ (by omega)]); try rfl⟩ (by intros; (repeat rw [hF _ _ (by omega)]); try rfl) (by intros; (repeat rw [hF _ _ (by omega)]); try rfl)⟩, hI2, hT.fr ⟨by (repeat rw [hF _ _ (by omega)]); try rfl, by (repeat rw [hF _ _ (by omega)]); try rfl⟩ (by intros; (repeat rw [hF _ _ (by omega)]); try rfl) (by intros; (repeat rw [hF _ _ (by omega)]); try rfl) (by intros; (repeat rw [hF _ _ (by omega)]); try rfl), hX.fr ⟨by (repeat rw [hF _ _ (by omega)]); try rfl, by (repeat rw [hF _ _ (by omega)]); try rfl⟩ (by intros; (repeat rw [hF _ _ (by omega)]); try rfl), hC.fr ⟨by (repeat rw [hF _ _ (by omega)]); try rfl, by (repeat rw [hF _ _ (by omega)]); try rfl⟩ (by intros; (repeat rw [hF _ _ (by omega)]); try rfl), hH.fr ⟨by (repeat rw [hF _ _ (by omega)]); try rfl, by (repeat rw [hF _ _ (by omega)]); try rfl, by (repeat rw [hF _ _ (by omega)]); try rfl⟩ (by intros; (repeat rw [hF _ _ (by omega)]); try rfl) (by intros; (repeat rw [hF _ _ (by omega)]); try rfl), hQ.fr (by intros; (repeat rw [hF _ _ (by omega)]); try rfl) (by intros; (repeat rw [hF _ _ (by omega)]); try rfl) (by intros; (repeat rw [hF _ _ (by omega)]); try rfl) (by intros; (repeat rw [hF _ _ (by omega)]); try rfl)⟩
                            · refine ⟨by (repeat (first | rw [hw0] | rw [hw1] | rw [hw2] | rw [hw3] | rw [hw4] | rw [hw5] | rw [hw6] | rw [hw7] | rw [hF _ _ (by omega)])); try omega, by (repeat (first | rw [hw0] | rw [hw1] | rw [hw2] | rw [hw3] | rw [hw4] | rw [hw5] | rw [hw6] | rw [hw7] | rw [hF _ _ (by omega)])); omega, by (repeat (first | rw [hw0] | rw [hw1] | rw [hw2] | rw [hw3] | rw [hw4] | rw [hw5] | rw [hw6] | rw [hw7] | rw [hF _ _ (by omega)])); omega, by (repeat (first | rw [hw0] | rw [hw1] | rw [hw2] | rw [hw3] | rw [hw4] | rw [hw5] | rw [hw6] | rw [hw7] | rw [hF _ _ (by omega)])); try exact hz4, fun x hx => ?_⟩
                              rw [hw0] at hx
                              by_cases hxc : x = c
                              · subst hxc; (repeat (first | rw [hw0] | rw [hw1] | rw [hw2] | rw [hw3] | rw [hw4] | rw [hw5] | rw [hw6] | rw [hw7] | rw [hF _ _ (by omega)])); omega
                              · have h := hz5 x (by omega)
                                (repeat (first | rw [hw0] | rw [hw1] | rw [hw2] | rw [hw3] | rw [hw4] | rw [hw5] | rw [hw6] | rw [hw7] | rw [hF _ _ (by omega)]))
                                exact h
                          · exfalso; omega
                        · exfalso; omega
                      · exfalso; omega
                    · exfalso; omega
                · exfalso; omega
              · refine ex_st 1 (pc' := 12) (ls' := [(0, xr 7), (1, xi t), (2, xi x), (3, xi 0), (4, xi 0)]) (st' := [xi 0]) rfl ?_
                refine ex_retz rfl (Or.inl rfl) rfl ?_
                refine ex_st 1 (pc' := 94) (ls' := [(0, xr 0), (1, xi t), (2, xi x)]) (st' := []) rfl ?_
                refine ex_st 1 (pc' := 96) (ls' := [(0, xr 0), (1, xi t), (2, xi x)]) (st' := [xi (-4)]) rfl ?_
                refine ex_reti rfl rfl ?_
                refine x_CQ.of (M := xM_m_plan) rfl (Nat.le_of_ble_eq_true rfl) ?_
                refine ex_st 2 (pc' := 2) (ls' := [(0, xr 143), (1, xi t), (2, xi x)]) (st' := [xi (-1), xi t]) rfl ?_
                refine ex_ic rfl (by first | omega | (constructor <;> omega) | assumption) (by decide) (fun (h35 : ¬ t = (-1)) => ?_) (fun (h35 : ¬ ¬ t = (-1)) => ?_)
                · refine ex_st 4 (pc' := 16) (ls' := [(0, xr 143), (1, xi t), (2, xi x)]) (st' := [xi 3, xi 0, xi t, xr 143]) rfl ?_
                  refine ex_call (ct_m_in (by first | omega | (constructor <;> omega) | assumption) (by first | omega | (constructor <;> omega) | assumption) (by first | omega | (constructor <;> omega) | assumption)) (by decide) rfl ⟨rfl, rfl, rfl⟩ ⟨Nat.le_of_ble_eq_true rfl, rfl, rfl⟩ (Nat.le_of_ble_eq_true rfl) rfl ?_
                  refine ex_beq rfl (fun h36 => ?_) (fun h36 => ?_)
                  · exfalso; omega
                  · refine ex_st 4 (pc' := 26) (ls' := [(0, xr 143), (1, xi t), (2, xi x)]) (st' := [xi 2, xi 1, xi t, xr 143]) rfl ?_
                    refine ex_call (ct_m_in (by first | omega | (constructor <;> omega) | assumption) (by first | omega | (constructor <;> omega) | assumption) (by first | omega | (constructor <;> omega) | assumption)) (by decide) rfl ⟨rfl, rfl, rfl⟩ ⟨Nat.le_of_ble_eq_true rfl, rfl, rfl⟩ (Nat.le_of_ble_eq_true rfl) rfl ?_
                    refine ex_beq rfl (fun h37 => ?_) (fun h37 => ?_)
                    · refine ex_st 2 (pc' := 44) (ls' := [(0, xr 143), (1, xi t), (2, xi x)]) (st' := [xi 3, xi t]) rfl ?_
                      refine ex_ic rfl (by first | omega | (constructor <;> omega) | assumption) (by decide) (fun (h38 : ¬ t = 3) => ?_) (fun (h38 : ¬ ¬ t = 3) => ?_)
                      · refine ex_st 2 (pc' := 62) (ls' := [(0, xr 143), (1, xi t), (2, xi x)]) (st' := [xi (I 143 43)]) rfl ?_
                        rw [hc0]
                        refine ex_st 1 (pc' := 64) (ls' := [(0, xr 143), (1, xi t), (2, xi x)]) (st' := [xi 10, xi (↑c)]) rfl ?_
                        refine ex_ic rfl (by first | omega | (constructor <;> omega) | assumption) (by decide) (fun (h39 : ¬ (↑c : Int) = 10) => ?_) (fun (h39 : ¬ ¬ (↑c : Int) = 10) => ?_)
                        · exfalso; omega
                        · refine ex_st 1 (pc' := 69) (ls' := [(0, xr 143), (1, xi t), (2, xi x)]) (st' := [xi (-4)]) rfl ?_
                          refine ex_reti rfl rfl ?_
                          exact ⟨x_req (by first | rfl | omega), _, _, rfl, hR⟩
                      · exfalso; omega
                    · exfalso; omega
                · exfalso; omega
            · refine ex_st 1 (pc' := 55) (ls' := [(0, xr 0), (1, xi t), (2, xi x)]) (st' := [xi x]) rfl ?_
              refine ex_call (ct_G_isDigit (by first | omega | (constructor <;> omega) | assumption)) (by decide) rfl ⟨rfl, rfl, rfl⟩ ⟨Nat.le_of_ble_eq_true rfl, rfl, rfl⟩ (Nat.le_of_ble_eq_true rfl) rfl ?_
              refine ex_bne rfl (fun h40 => ?_) (fun h40 => ?_)
              · refine ex_st 7 (pc' := 75) (ls' := [(0, xr 0), (1, xi t), (2, xi x)]) (st' := [xi 0, xi 0, xi x, xi t, xr 7]) rfl ?_
                refine ex_inl (M' := xM_Rw_add) (as := [xr 7, xi t, xi x, xi 0, xi 0]) (rest := []) (D' := 28) rfl (Nat.le_of_ble_eq_true rfl) (by decide) rfl ⟨rfl, rfl, rfl⟩ ⟨Nat.le_of_ble_eq_true rfl, rfl, rfl⟩ (Nat.le_of_ble_eq_true rfl) rfl ?_
                refine ex_st 2 (pc' := 4) (ls' := [(0, xr 7), (1, xi t), (2, xi x), (3, xi 0), (4, xi 0)]) (st' := [xi (I 7 2)]) rfl ?_
                rw [hc1]
                refine ex_st 2 (pc' := 8) (ls' := [(0, xr 7), (1, xi t), (2, xi x), (3, xi 0), (4, xi 0)]) (st' := [xi (I 7 0), xi (↑c)]) rfl ?_
                rw [hz4]
                refine ex_ic rfl (by first | omega | (constructor <;> omega) | assumption) (by decide) (fun (h41 : (↑c : Int) < 10) => ?_) (fun (h41 : ¬ (↑c : Int) < 10) => ?_)
                · refine ex_st 4 (pc' := 21) (ls' := [(0, xr 7), (1, xi t), (2, xi x), (3, xi 0), (4, xi 0)]) (st' := [xi (I 7 2), xr 8]) rfl ?_
                  rw [hc1]
                  refine ex_st 3 (pc' := 24) (ls' := [(0, xr 7), (1, xi t), (2, xi x), (3, xi 0), (4, xi 0)]) (st' := [xi t, xi ((↑c) * 4), xr 8]) rfl ?_
                  refine ex_iast (j := ((c) * 4)) rfl (by decide) (rfl : xSH[8]? = some _) (by omega) (by omega) (by decide) ?_
                  refine ex_st 4 (pc' := 33) (ls' := [(0, xr 7), (1, xi t), (2, xi x), (3, xi 0), (4, xi 0)]) (st' := [xi ((x_up I 8 ((c) * 4) t) 7 2), xr 8]) rfl ?_
                  rw [(x_up_far (by first | decide | omega) : (x_up I 8 ((c) * 4) t) 7 2 = I 7 2)]
                  rw [hc1]
                  refine ex_st 5 (pc' := 38) (ls' := [(0, xr 7), (1, xi t), (2, xi x), (3, xi 0), (4, xi 0)]) (st' := [xi x, xi (((↑c) * 4) + 1), xr 8]) rfl ?_
                  refine ex_iast (j := (((c) * 4) + 1)) rfl (by decide) (rfl : xSH[8]? = some _) (by omega) (by omega) (by decide) ?_
                  refine ex_st 4 (pc' := 47) (ls' := [(0, xr 7), (1, xi t), (2, xi x), (3, xi 0), (4, xi 0)]) (st' := [xi ((x_up (x_up I 8 ((c) * 4) t) 8 (((c) * 4) + 1) x) 7 2), xr 8]) rfl ?_
                  rw [(x_up_far (by first | decide | omega) : (x_up (x_up I 8 ((c) * 4) t) 8 (((c) * 4) + 1) x) 7 2 = (x_up I 8 ((c) * 4) t) 7 2)]
                  rw [(x_up_far (by first | decide | omega) : (x_up I 8 ((c) * 4) t) 7 2 = I 7 2)]
                  rw [hc1]
                  refine ex_st 5 (pc' := 52) (ls' := [(0, xr 7), (1, xi t), (2, xi x), (3, xi 0), (4, xi 0)]) (st' := [xi 0, xi (((↑c) * 4) + 2), xr 8]) rfl ?_
                  refine ex_iast (j := (((c) * 4) + 2)) rfl (by decide) (rfl : xSH[8]? = some _) (by omega) (by omega) (by decide) ?_
                  refine ex_st 4 (pc' := 61) (ls' := [(0, xr 7), (1, xi t), (2, xi x), (3, xi 0), (4, xi 0)]) (st' := [xi ((x_up (x_up (x_up I 8 ((c) * 4) t) 8 (((c) * 4) + 1) x) 8 (((c) * 4) + 2) 0) 7 2), xr 8]) rfl ?_
                  rw [(x_up_far (by first | decide | omega) : (x_up (x_up (x_up I 8 ((c) * 4) t) 8 (((c) * 4) + 1) x) 8 (((c) * 4) + 2) 0) 7 2 = (x_up (x_up I 8 ((c) * 4) t) 8 (((c) * 4) + 1) x) 7 2)]
                  rw [(x_up_far (by first | decide | omega) : (x_up (x_up I 8 ((c) * 4) t) 8 (((c) * 4) + 1) x) 7 2 = (x_up I 8 ((c) * 4) t) 7 2)]
                  rw [(x_up_far (by first | decide | omega) : (x_up I 8 ((c) * 4) t) 7 2 = I 7 2)]
                  rw [hc1]
                  refine ex_st 5 (pc' := 67) (ls' := [(0, xr 7), (1, xi t), (2, xi x), (3, xi 0), (4, xi 0)]) (st' := [xi 0, xi (((↑c) * 4) + 3), xr 8]) rfl ?_
                  refine ex_iast (j := (((c) * 4) + 3)) rfl (by decide) (rfl : xSH[8]? = some _) (by omega) (by omega) (by decide) ?_
                  refine ex_st 3 (pc' := 73) (ls' := [(0, xr 7), (1, xi t), (2, xi x), (3, xi 0), (4, xi 0)]) (st' := [xi ((x_up (x_up (x_up (x_up I 8 ((c) * 4) t) 8 (((c) * 4) + 1) x) 8 (((c) * 4) + 2) 0) 8 (((c) * 4) + 3) 0) 7 2), xr 7]) rfl ?_
                  rw [(x_up_far (by first | decide | omega) : (x_up (x_up (x_up (x_up I 8 ((c) * 4) t) 8 (((c) * 4) + 1) x) 8 (((c) * 4) + 2) 0) 8 (((c) * 4) + 3) 0) 7 2 = (x_up (x_up (x_up I 8 ((c) * 4) t) 8 (((c) * 4) + 1) x) 8 (((c) * 4) + 2) 0) 7 2)]
                  rw [(x_up_far (by first | decide | omega) : (x_up (x_up (x_up I 8 ((c) * 4) t) 8 (((c) * 4) + 1) x) 8 (((c) * 4) + 2) 0) 7 2 = (x_up (x_up I 8 ((c) * 4) t) 8 (((c) * 4) + 1) x) 7 2)]
                  rw [(x_up_far (by first | decide | omega) : (x_up (x_up I 8 ((c) * 4) t) 8 (((c) * 4) + 1) x) 7 2 = (x_up I 8 ((c) * 4) t) 7 2)]
                  rw [(x_up_far (by first | decide | omega) : (x_up I 8 ((c) * 4) t) 7 2 = I 7 2)]
                  rw [hc1]
                  refine ex_st 2 (pc' := 75) (ls' := [(0, xr 7), (1, xi t), (2, xi x), (3, xi 0), (4, xi 0)]) (st' := [xi ((↑c) + 1), xr 7]) rfl ?_
                  refine ex_pfi rfl (by decide) (rfl : xSH[7]? = some _) (by decide) rfl (by decide) (fun h => by cases h) ?_
                  refine ex_st 1 (pc' := 79) (ls' := [(0, xr 7), (1, xi t), (2, xi x), (3, xi 0), (4, xi 0)]) (st' := [xi 1]) rfl ?_
                  refine ex_retz rfl (Or.inr rfl) rfl ?_
                  refine ex_st 1 (pc' := 81) (ls' := [(0, xr 0), (1, xi t), (2, xi x)]) (st' := []) rfl ?_
                  refine ex_st 4 (pc' := 91) (ls' := [(0, xr 0), (1, xi t), (2, xi x)]) (st' := [xi ((x_up (x_up (x_up (x_up (x_up I 8 ((c) * 4) t) 8 (((c) * 4) + 1) x) 8 (((c) * 4) + 2) 0) 8 (((c) * 4) + 3) 0) 7 2 ((↑c) + 1)) 7 2)]) rfl ?_
                  rw [x_up_at (x_up (x_up (x_up (x_up I 8 ((c) * 4) t) 8 (((c) * 4) + 1) x) 8 (((c) * 4) + 2) 0) 8 (((c) * 4) + 3) 0) 7 2 ((↑c) + 1)]
                  refine ex_st 1 (pc' := 96) (ls' := [(0, xr 0), (1, xi t), (2, xi x)]) (st' := [xi ((↑c) + 1)]) rfl ?_
                  refine ex_reti rfl rfl ?_
                  refine x_CQ.of (M := xM_m_plan) rfl (Nat.le_of_ble_eq_true rfl) ?_
                  refine ex_st 2 (pc' := 2) (ls' := [(0, xr 143), (1, xi t), (2, xi x)]) (st' := [xi (-1), xi t]) rfl ?_
                  refine ex_ic rfl (by first | omega | (constructor <;> omega) | assumption) (by decide) (fun (h42 : ¬ t = (-1)) => ?_) (fun (h42 : ¬ ¬ t = (-1)) => ?_)
                  · refine ex_st 4 (pc' := 16) (ls' := [(0, xr 143), (1, xi t), (2, xi x)]) (st' := [xi 3, xi 0, xi t, xr 143]) rfl ?_
                    refine ex_call (ct_m_in (by first | omega | (constructor <;> omega) | assumption) (by first | omega | (constructor <;> omega) | assumption) (by first | omega | (constructor <;> omega) | assumption)) (by decide) rfl ⟨rfl, rfl, rfl⟩ ⟨Nat.le_of_ble_eq_true rfl, rfl, rfl⟩ (Nat.le_of_ble_eq_true rfl) rfl ?_
                    refine ex_beq rfl (fun h43 => ?_) (fun h43 => ?_)
                    · exfalso; omega
                    · refine ex_st 4 (pc' := 26) (ls' := [(0, xr 143), (1, xi t), (2, xi x)]) (st' := [xi 2, xi 1, xi t, xr 143]) rfl ?_
                      refine ex_call (ct_m_in (by first | omega | (constructor <;> omega) | assumption) (by first | omega | (constructor <;> omega) | assumption) (by first | omega | (constructor <;> omega) | assumption)) (by decide) rfl ⟨rfl, rfl, rfl⟩ ⟨Nat.le_of_ble_eq_true rfl, rfl, rfl⟩ (Nat.le_of_ble_eq_true rfl) rfl ?_
                      refine ex_beq rfl (fun h44 => ?_) (fun h44 => ?_)
                      · refine ex_st 2 (pc' := 44) (ls' := [(0, xr 143), (1, xi t), (2, xi x)]) (st' := [xi 3, xi t]) rfl ?_
                        refine ex_ic rfl (by first | omega | (constructor <;> omega) | assumption) (by decide) (fun (h45 : ¬ t = 3) => ?_) (fun (h45 : ¬ ¬ t = 3) => ?_)
                        · exfalso; omega
                        · refine ex_st 2 (pc' := 49) (ls' := [(0, xr 143), (1, xi t), (2, xi x)]) (st' := [xi x, xr 143]) rfl ?_
                          refine ex_call (ct_m_isDigitNumber (by first | omega | (constructor <;> omega) | assumption)) (by decide) rfl ⟨rfl, rfl, rfl⟩ ⟨Nat.le_of_ble_eq_true rfl, rfl, rfl⟩ (Nat.le_of_ble_eq_true rfl) rfl ?_
                          refine ex_bne rfl (fun h46 => ?_) (fun h46 => ?_)
                          · refine ex_st 2 (pc' := 62) (ls' := [(0, xr 143), (1, xi t), (2, xi x)]) (st' := [xi ((x_up (x_up (x_up (x_up (x_up I 8 ((c) * 4) t) 8 (((c) * 4) + 1) x) 8 (((c) * 4) + 2) 0) 8 (((c) * 4) + 3) 0) 7 2 ((↑c) + 1)) 143 43)]) rfl ?_
                            rw [(x_up_far (by first | decide | omega) : (x_up (x_up (x_up (x_up (x_up I 8 ((c) * 4) t) 8 (((c) * 4) + 1) x) 8 (((c) * 4) + 2) 0) 8 (((c) * 4) + 3) 0) 7 2 ((↑c) + 1)) 143 43 = (x_up (x_up (x_up (x_up I 8 ((c) * 4) t) 8 (((c) * 4) + 1) x) 8 (((c) * 4) + 2) 0) 8 (((c) * 4) + 3) 0) 143 43)]
                            rw [(x_up_far (by first | decide | omega) : (x_up (x_up (x_up (x_up I 8 ((c) * 4) t) 8 (((c) * 4) + 1) x) 8 (((c) * 4) + 2) 0) 8 (((c) * 4) + 3) 0) 143 43 = (x_up (x_up (x_up I 8 ((c) * 4) t) 8 (((c) * 4) + 1) x) 8 (((c) * 4) + 2) 0) 143 43)]
                            rw [(x_up_far (by first | decide | omega) : (x_up (x_up (x_up I 8 ((c) * 4) t) 8 (((c) * 4) + 1) x) 8 (((c) * 4) + 2) 0) 143 43 = (x_up (x_up I 8 ((c) * 4) t) 8 (((c) * 4) + 1) x) 143 43)]
                            rw [(x_up_far (by first | decide | omega) : (x_up (x_up I 8 ((c) * 4) t) 8 (((c) * 4) + 1) x) 143 43 = (x_up I 8 ((c) * 4) t) 143 43)]
                            rw [(x_up_far (by first | decide | omega) : (x_up I 8 ((c) * 4) t) 143 43 = I 143 43)]
                            rw [hc0]
                            refine ex_st 1 (pc' := 64) (ls' := [(0, xr 143), (1, xi t), (2, xi x)]) (st' := [xi 10, xi (↑c)]) rfl ?_
                            refine ex_ic rfl (by first | omega | (constructor <;> omega) | assumption) (by decide) (fun (h47 : ¬ (↑c : Int) = 10) => ?_) (fun (h47 : ¬ ¬ (↑c : Int) = 10) => ?_)
                            · refine ex_st 4 (pc' := 78) (ls' := [(0, xr 143), (1, xi t), (2, xi x)]) (st' := [xi ((x_up (x_up (x_up (x_up (x_up I 8 ((c) * 4) t) 8 (((c) * 4) + 1) x) 8 (((c) * 4) + 2) 0) 8 (((c) * 4) + 3) 0) 7 2 ((↑c) + 1)) 143 43), xr 169]) rfl ?_
                              rw [(x_up_far (by first | decide | omega) : (x_up (x_up (x_up (x_up (x_up I 8 ((c) * 4) t) 8 (((c) * 4) + 1) x) 8 (((c) * 4) + 2) 0) 8 (((c) * 4) + 3) 0) 7 2 ((↑c) + 1)) 143 43 = (x_up (x_up (x_up (x_up I 8 ((c) * 4) t) 8 (((c) * 4) + 1) x) 8 (((c) * 4) + 2) 0) 8 (((c) * 4) + 3) 0) 143 43)]
                              rw [(x_up_far (by first | decide | omega) : (x_up (x_up (x_up (x_up I 8 ((c) * 4) t) 8 (((c) * 4) + 1) x) 8 (((c) * 4) + 2) 0) 8 (((c) * 4) + 3) 0) 143 43 = (x_up (x_up (x_up I 8 ((c) * 4) t) 8 (((c) * 4) + 1) x) 8 (((c) * 4) + 2) 0) 143 43)]
                              rw [(x_up_far (by first | decide | omega) : (x_up (x_up (x_up I 8 ((c) * 4) t) 8 (((c) * 4) + 1) x) 8 (((c) * 4) + 2) 0) 143 43 = (x_up (x_up I 8 ((c) * 4) t) 8 (((c) * 4) + 1) x) 143 43)]
                              rw [(x_up_far (by first | decide | omega) : (x_up (x_up I 8 ((c) * 4) t) 8 (((c) * 4) + 1) x) 143 43 = (x_up I 8 ((c) * 4) t) 143 43)]
                              rw [(x_up_far (by first | decide | omega) : (x_up I 8 ((c) * 4) t) 143 43 = I 143 43)]
                              rw [hc0]
                              refine ex_st 1 (pc' := 79) (ls' := [(0, xr 143), (1, xi t), (2, xi x)]) (st' := [xi t, xi (↑c), xr 169]) rfl ?_
                              refine ex_iast (j := c) rfl (by decide) (rfl : xSH[169]? = some _) (by omega) (by omega) (by decide) ?_
                              refine ex_st 4 (pc' := 88) (ls' := [(0, xr 143), (1, xi t), (2, xi x)]) (st' := [xi ((x_up (x_up (x_up (x_up (x_up (x_up I 8 ((c) * 4) t) 8 (((c) * 4) + 1) x) 8 (((c) * 4) + 2) 0) 8 (((c) * 4) + 3) 0) 7 2 ((↑c) + 1)) 169 c t) 143 43), xr 170]) rfl ?_
                              rw [(x_up_far (by first | decide | omega) : (x_up (x_up (x_up (x_up (x_up (x_up I 8 ((c) * 4) t) 8 (((c) * 4) + 1) x) 8 (((c) * 4) + 2) 0) 8 (((c) * 4) + 3) 0) 7 2 ((↑c) + 1)) 169 c t) 143 43 = (x_up (x_up (x_up (x_up (x_up I 8 ((c) * 4) t) 8 (((c) * 4) + 1) x) 8 (((c) * 4) + 2) 0) 8 (((c) * 4) + 3) 0) 7 2 ((↑c) + 1)) 143 43)]
                              rw [(x_up_far (by first | decide | omega) : (x_up (x_up (x_up (x_up (x_up I 8 ((c) * 4) t) 8 (((c) * 4) + 1) x) 8 (((c) * 4) + 2) 0) 8 (((c) * 4) + 3) 0) 7 2 ((↑c) + 1)) 143 43 = (x_up (x_up (x_up (x_up I 8 ((c) * 4) t) 8 (((c) * 4) + 1) x) 8 (((c) * 4) + 2) 0) 8 (((c) * 4) + 3) 0) 143 43)]
                              rw [(x_up_far (by first | decide | omega) : (x_up (x_up (x_up (x_up I 8 ((c) * 4) t) 8 (((c) * 4) + 1) x) 8 (((c) * 4) + 2) 0) 8 (((c) * 4) + 3) 0) 143 43 = (x_up (x_up (x_up I 8 ((c) * 4) t) 8 (((c) * 4) + 1) x) 8 (((c) * 4) + 2) 0) 143 43)]
                              rw [(x_up_far (by first | decide | omega) : (x_up (x_up (x_up I 8 ((c) * 4) t) 8 (((c) * 4) + 1) x) 8 (((c) * 4) + 2) 0) 143 43 = (x_up (x_up I 8 ((c) * 4) t) 8 (((c) * 4) + 1) x) 143 43)]
                              rw [(x_up_far (by first | decide | omega) : (x_up (x_up I 8 ((c) * 4) t) 8 (((c) * 4) + 1) x) 143 43 = (x_up I 8 ((c) * 4) t) 143 43)]
                              rw [(x_up_far (by first | decide | omega) : (x_up I 8 ((c) * 4) t) 143 43 = I 143 43)]
                              rw [hc0]
                              refine ex_st 1 (pc' := 89) (ls' := [(0, xr 143), (1, xi t), (2, xi x)]) (st' := [xi t, xi (↑c), xr 170]) rfl ?_
                              refine ex_if rfl (by first | omega | (constructor <;> omega) | assumption) (fun (h48 : t ≤ 0) => ?_) (fun (h48 : ¬ t ≤ 0) => ?_)
                              · exfalso; omega
                              · refine ex_st 2 (pc' := 97) (ls' := [(0, xr 143), (1, xi t), (2, xi x)]) (st' := [xi x, xi (↑c), xr 170]) rfl ?_
                                refine ex_iast (j := c) rfl (by decide) (rfl : xSH[170]? = some _) (by omega) (by omega) (by decide) ?_
                                refine ex_st 3 (pc' := 103) (ls' := [(0, xr 143), (1, xi t), (2, xi x)]) (st' := [xi ((x_up (x_up (x_up (x_up (x_up (x_up (x_up I 8 ((c) * 4) t) 8 (((c) * 4) + 1) x) 8 (((c) * 4) + 2) 0) 8 (((c) * 4) + 3) 0) 7 2 ((↑c) + 1)) 169 c t) 170 c x) 143 43), xr 143]) rfl ?_
                                rw [(x_up_far (by first | decide | omega) : (x_up (x_up (x_up (x_up (x_up (x_up (x_up I 8 ((c) * 4) t) 8 (((c) * 4) + 1) x) 8 (((c) * 4) + 2) 0) 8 (((c) * 4) + 3) 0) 7 2 ((↑c) + 1)) 169 c t) 170 c x) 143 43 = (x_up (x_up (x_up (x_up (x_up (x_up I 8 ((c) * 4) t) 8 (((c) * 4) + 1) x) 8 (((c) * 4) + 2) 0) 8 (((c) * 4) + 3) 0) 7 2 ((↑c) + 1)) 169 c t) 143 43)]
                                rw [(x_up_far (by first | decide | omega) : (x_up (x_up (x_up (x_up (x_up (x_up I 8 ((c) * 4) t) 8 (((c) * 4) + 1) x) 8 (((c) * 4) + 2) 0) 8 (((c) * 4) + 3) 0) 7 2 ((↑c) + 1)) 169 c t) 143 43 = (x_up (x_up (x_up (x_up (x_up I 8 ((c) * 4) t) 8 (((c) * 4) + 1) x) 8 (((c) * 4) + 2) 0) 8 (((c) * 4) + 3) 0) 7 2 ((↑c) + 1)) 143 43)]
                                rw [(x_up_far (by first | decide | omega) : (x_up (x_up (x_up (x_up (x_up I 8 ((c) * 4) t) 8 (((c) * 4) + 1) x) 8 (((c) * 4) + 2) 0) 8 (((c) * 4) + 3) 0) 7 2 ((↑c) + 1)) 143 43 = (x_up (x_up (x_up (x_up I 8 ((c) * 4) t) 8 (((c) * 4) + 1) x) 8 (((c) * 4) + 2) 0) 8 (((c) * 4) + 3) 0) 143 43)]
                                rw [(x_up_far (by first | decide | omega) : (x_up (x_up (x_up (x_up I 8 ((c) * 4) t) 8 (((c) * 4) + 1) x) 8 (((c) * 4) + 2) 0) 8 (((c) * 4) + 3) 0) 143 43 = (x_up (x_up (x_up I 8 ((c) * 4) t) 8 (((c) * 4) + 1) x) 8 (((c) * 4) + 2) 0) 143 43)]
                                rw [(x_up_far (by first | decide | omega) : (x_up (x_up (x_up I 8 ((c) * 4) t) 8 (((c) * 4) + 1) x) 8 (((c) * 4) + 2) 0) 143 43 = (x_up (x_up I 8 ((c) * 4) t) 8 (((c) * 4) + 1) x) 143 43)]
                                rw [(x_up_far (by first | decide | omega) : (x_up (x_up I 8 ((c) * 4) t) 8 (((c) * 4) + 1) x) 143 43 = (x_up I 8 ((c) * 4) t) 143 43)]
                                rw [(x_up_far (by first | decide | omega) : (x_up I 8 ((c) * 4) t) 143 43 = I 143 43)]
                                rw [hc0]
                                refine ex_st 2 (pc' := 105) (ls' := [(0, xr 143), (1, xi t), (2, xi x)]) (st' := [xi ((↑c) + 1), xr 143]) rfl ?_
                                refine ex_pfi rfl (by decide) (rfl : xSH[143]? = some _) (by decide) rfl (by decide) (fun h => by cases h) ?_
                                refine ex_st 2 (pc' := 112) (ls' := [(0, xr 143), (1, xi t), (2, xi x)]) (st' := [xi ((x_up (x_up (x_up (x_up (x_up (x_up (x_up (x_up I 8 ((c) * 4) t) 8 (((c) * 4) + 1) x) 8 (((c) * 4) + 2) 0) 8 (((c) * 4) + 3) 0) 7 2 ((↑c) + 1)) 169 c t) 170 c x) 143 43 ((↑c) + 1)) 143 43)]) rfl ?_
                                rw [x_up_at (x_up (x_up (x_up (x_up (x_up (x_up (x_up I 8 ((c) * 4) t) 8 (((c) * 4) + 1) x) 8 (((c) * 4) + 2) 0) 8 (((c) * 4) + 3) 0) 7 2 ((↑c) + 1)) 169 c t) 170 c x) 143 43 ((↑c) + 1)]
                                refine ex_reti rfl rfl ?_
                                refine ⟨x_req (by first | rfl | omega), ?_⟩
                                refine ⟨_, _, rfl, ?_⟩
                                generalize hM : (x_up (x_up (x_up (x_up (x_up (x_up (x_up (x_up I 8 ((c) * 4) t) 8 (((c) * 4) + 1) x) 8 (((c) * 4) + 2) 0) 8 (((c) * 4) + 3) 0) 7 2 ((↑c) + 1)) 169 c t) 170 c x) 143 43 ((↑c) + 1)) = I2
                                have hF : ∀ k j, ¬ ((k = 143 ∧ j = 43) ∨ (k = 170 ∧ j = c) ∨ (k = 169 ∧ j = c) ∨ (k = 7 ∧ j = 2) ∨ (k = 8 ∧ j = ((c) * 4) + 3) ∨ (k = 8 ∧ j = ((c) * 4) + 2) ∨ (k = 8 ∧ j = ((c) * 4) + 1) ∨ (k = 8 ∧ j = (c) * 4)) → I2 k j = I k j := by intro k j hk; rw [← hM]; (repeat rw [x_up_far (by omega)])
                                have hw0 : I2 143 43 = ((↑c) + 1) := by rw [← hM]; (repeat (first | rw [x_up_far (by omega)] | rw [x_up_at2 (by omega) (by omega)]))
                                have hw1 : I2 170 c = x := by rw [← hM]; (repeat (first | rw [x_up_far (by omega)] | rw [x_up_at2 (by omega) (by omega)]))
                                have hw2 : I2 169 c = t := by rw [← hM]; (repeat (first | rw [x_up_far (by omega)] | rw [x_up_at2 (by omega) (by omega)]))
                                have hw3 : I2 7 2 = ((↑c) + 1) := by rw [← hM]; (repeat (first | rw [x_up_far (by omega)] | rw [x_up_at2 (by omega) (by omega)]))
                                have hw4 : I2 8 (((c) * 4) + 3) = 0 := by rw [← hM]; (repeat (first | rw [x_up_far (by omega)] | rw [x_up_at2 (by omega) (by omega)]))
                                have hw5 : I2 8 (((c) * 4) + 2) = 0 := by rw [← hM]; (repeat (first | rw [x_up_far (by omega)] | rw [x_up_at2 (by omega) (by omega)]))
                                have hw6 : I2 8 (((c) * 4) + 1) = x := by rw [← hM]; (repeat (first | rw [x_up_far (by omega)] | rw [x_up_at2 (by omega) (by omega)]))
                                have hw7 : I2 8 ((c) * 4) = t := by rw [← hM]; (repeat (first | rw [x_up_far (by omega)] | rw [x_up_at2 (by omega) (by omega)]))
                                clear hM
                                have hI2 : RIw I2 := by
                                  obtain ⟨gs, go, ga, gb, gr, gd, gg, ge, gp, gk⟩ := id hI
                                  exact ⟨gs.fr ⟨by (repeat rw [hF _ _ (by omega)]); try rfl, by (repeat rw [hF _ _ (by omega)]); try rfl, by (repeat rw [hF _ _ (by omega)]); try rfl, by (repeat rw [hF _ _ (by omega)]); try rfl, by (repeat rw [hF _ _ (by omega)]); try rfl, by (repeat rw [hF _ _ (by omega)]); try rfl, by (repeat rw [hF _ _ (by omega)]); try rfl, by (repeat rw [hF _ _ (by omega)]); try rfl, by (repeat rw [hF _ _ (by omega)]); try rfl⟩, go.fr (by intros; (repeat rw [hF _ _ (by omega)]); try rfl) (by intros; (repeat rw [hF _ _ (by omega)]); try rfl), ga.fr (by intros; (repeat rw [hF _ _ (by omega)]); try rfl) (by (repeat rw [hF _ _ (by omega)]); try rfl), gb.fr (by intros; (repeat rw [hF _ _ (by omega)]); try rfl) (by intros; (repeat rw [hF _ _ (by omega)]); try rfl), gr.fr (by intros; (repeat rw [hF _ _ (by omega)]); try rfl) (by intros; (repeat rw [hF _ _ (by omega)]); try rfl), gd.fr (by intros; (repeat rw [hF _ _ (by omega)]); try rfl) (by intros; (repeat rw [hF _ _ (by omega)]); try rfl) (by (repeat rw [hF _ _ (by omega)]); try rfl), gg.fr ⟨by (repeat rw [hF _ _ (by omega)]); try rfl, by (repeat rw [hF _ _ (by omega)]); try rfl⟩ (by intros; (repeat rw [hF _ _ (by omega)]); try rfl) (by intros; (repeat rw [hF _ _ (by omega)]); try rfl), ge.fr ⟨by (repeat rw [hF _ _ (by omega)]); try rfl, by (repeat rw [hF _ _ (by omega)]); try rfl, by (repeat rw [hF _ _ (by omega)]); try rfl⟩ (by intros; (repeat rw [hF _ _ (by omega)]); try rfl) (by intros; (repeat rw [hF _ _ (by omega)]); try rfl), gp.fr ⟨by (repeat rw [hF _ _ (by omega)]); try rfl, by (repeat rw [hF _ _ (by omega)]); try rfl, by (repeat rw [hF _ _ (by omega)]); try rfl⟩ (by intros; (repeat rw [hF _ _ (by omega)]); try rfl) (by intros; (repeat rw [hF _ _ (by omega)]); try rfl), gk.fr ⟨by (repeat rw [hF _ _ (by omega)]); try rfl, by (repeat rw [hF _ _ (by omega)]); try rfl, by (repeat rw [hF _ _ (by omega)]); try rfl⟩ (by intros; (repeat rw [hF _ _ (by omega)]); try rfl) (by intros; (repeat rw [hF _ _ (by omega)]); try rfl)⟩
                                refine ⟨⟨hNs.fr ⟨by (repeat rw [hF _ _ (by omega)]); try rfl, by (repeat rw [hF _ _ (by omega)]); try rfl, by (repeat rw [hF _ _ (by omega)]); try rfl, by (repeat rw [hF _ _ (by omega)]); try rfl, by (repeat rw [hF _ _ (by omega)]); try rfl, by (repeat rw [hF _ _ (by omega)]); try rfl, by (repeat rw [hF _ _ (by omega)]); try rfl, by (repeat rw [hF _ _ (by omega)]); try rfl, by (repeat rw [hF _ _ (by omega)]); try rfl⟩, hNo.fr (by intros; (repeat rw [hF _ _ (by omega)]); try rfl) (by intros; (repeat rw [hF _ _ (by omega)]); try rfl), hNa.fr (by intros; (repeat rw [hF _ _ (by omega)]); try rfl) (by (repeat rw [hF _ _ (by omega)]); try rfl), hNb.fr (by intros; (repeat rw [hF _ _ (by omega)]); try rfl) (by intros; (repeat rw [hF _ _ (by omega)]); try rfl), hNr.fr (by intros; (repeat rw [hF _ _ (by omega)]); try rfl) (by intros; (repeat rw [hF _ _ (by omega)]); try rfl), hNd.fr (by intros; (repeat rw [hF _ _ (by omega)]); try rfl) (by intros; (repeat rw [hF _ _ (by omega)]); try rfl) (by (repeat rw [hF _ _ (by omega)]); try rfl), hNg.fr ⟨by (repeat rw [hF _ _ (by omega)]); try rfl, by (repeat rw [hF _ _ (by omega)]); try rfl⟩ (by intros; (repeat rw [hF _ _ (by omega)]); try rfl) (by intros; (repeat rw [hF _ _ (by omega)]); try rfl), hNe.fr ⟨by (repeat rw [hF _ _ (by omega)]); try rfl, by (repeat rw [hF _ _ (by omega)]); try rfl, by (repeat rw [hF _ _ (by omega)]); try rfl⟩ (by intros; (repeat rw [hF _ _ (by omega)]); try rfl) (by intros; (repeat rw [hF _ _ (by omega)]); try rfl), ?_, hNk.fr ⟨by (repeat rw [hF _ _ (by omega)]); try rfl, by (repeat rw [hF _ _ (by omega)]); try rfl, by (repeat rw [hF _ _ (by omega)]); try rfl⟩ (by intros; (repeat rw [hF _ _ (by omega)]); try rfl) (by intros; (repeat rw [hF _ _ (by omega)]); try rfl)⟩, hI2, hT.fr ⟨by (repeat rw [hF _ _ (by omega)]); try rfl, by (repeat rw [hF _ _ (by omega)]); try rfl⟩ (by intros; (repeat rw [hF _ _ (by omega)]); try rfl) (by intros; (repeat rw [hF _ _ (by omega)]); try rfl) (by intros; (repeat rw [hF _ _ (by omega)]); try rfl), hX.fr ⟨by (repeat rw [hF _ _ (by omega)]); try rfl, by (repeat rw [hF _ _ (by omega)]); try rfl⟩ (by intros; (repeat rw [hF _ _ (by omega)]); try rfl), hC.fr ⟨by (repeat rw [hF _ _ (by omega)]); try rfl, by (repeat rw [hF _ _ (by omega)]); try rfl⟩ (by intros; (repeat rw [hF _ _ (by omega)]); try rfl), hH.fr ⟨by (repeat rw [hF _ _ (by omega)]); try rfl, by (repeat rw [hF _ _ (by omega)]); try rfl, by (repeat rw [hF _ _ (by omega)]); try rfl⟩ (by intros; (repeat rw [hF _ _ (by omega)]); try rfl) (by intros; (repeat rw [hF _ _ (by omega)]); try rfl), hQ.fr (by intros; (repeat rw [hF _ _ (by omega)]); try rfl) (by intros; (repeat rw [hF _ _ (by omega)]); try rfl) (by intros; (repeat rw [hF _ _ (by omega)]); try rfl) (by intros; (repeat rw [hF _ _ (by omega)]); try rfl)⟩
                                · refine ⟨by (repeat (first | rw [hw0] | rw [hw1] | rw [hw2] | rw [hw3] | rw [hw4] | rw [hw5] | rw [hw6] | rw [hw7] | rw [hF _ _ (by omega)])); try omega, by (repeat (first | rw [hw0] | rw [hw1] | rw [hw2] | rw [hw3] | rw [hw4] | rw [hw5] | rw [hw6] | rw [hw7] | rw [hF _ _ (by omega)])); omega, by (repeat (first | rw [hw0] | rw [hw1] | rw [hw2] | rw [hw3] | rw [hw4] | rw [hw5] | rw [hw6] | rw [hw7] | rw [hF _ _ (by omega)])); omega, by (repeat (first | rw [hw0] | rw [hw1] | rw [hw2] | rw [hw3] | rw [hw4] | rw [hw5] | rw [hw6] | rw [hw7] | rw [hF _ _ (by omega)])); try exact hz4, fun x hx => ?_⟩
                                  rw [hw0] at hx
                                  by_cases hxc : x = c
                                  · subst hxc; (repeat (first | rw [hw0] | rw [hw1] | rw [hw2] | rw [hw3] | rw [hw4] | rw [hw5] | rw [hw6] | rw [hw7] | rw [hF _ _ (by omega)])); omega
                                  · have h := hz5 x (by omega)
                                    (repeat (first | rw [hw0] | rw [hw1] | rw [hw2] | rw [hw3] | rw [hw4] | rw [hw5] | rw [hw6] | rw [hw7] | rw [hF _ _ (by omega)]))
                                    exact h
                            · exfalso; omega
                          · exfalso; omega
                      · exfalso; omega
                  · exfalso; omega
                · refine ex_st 1 (pc' := 12) (ls' := [(0, xr 7), (1, xi t), (2, xi x), (3, xi 0), (4, xi 0)]) (st' := [xi 0]) rfl ?_
                  refine ex_retz rfl (Or.inl rfl) rfl ?_
                  refine ex_st 1 (pc' := 94) (ls' := [(0, xr 0), (1, xi t), (2, xi x)]) (st' := []) rfl ?_
                  refine ex_st 1 (pc' := 96) (ls' := [(0, xr 0), (1, xi t), (2, xi x)]) (st' := [xi (-4)]) rfl ?_
                  refine ex_reti rfl rfl ?_
                  refine x_CQ.of (M := xM_m_plan) rfl (Nat.le_of_ble_eq_true rfl) ?_
                  refine ex_st 2 (pc' := 2) (ls' := [(0, xr 143), (1, xi t), (2, xi x)]) (st' := [xi (-1), xi t]) rfl ?_
                  refine ex_ic rfl (by first | omega | (constructor <;> omega) | assumption) (by decide) (fun (h49 : ¬ t = (-1)) => ?_) (fun (h49 : ¬ ¬ t = (-1)) => ?_)
                  · refine ex_st 4 (pc' := 16) (ls' := [(0, xr 143), (1, xi t), (2, xi x)]) (st' := [xi 3, xi 0, xi t, xr 143]) rfl ?_
                    refine ex_call (ct_m_in (by first | omega | (constructor <;> omega) | assumption) (by first | omega | (constructor <;> omega) | assumption) (by first | omega | (constructor <;> omega) | assumption)) (by decide) rfl ⟨rfl, rfl, rfl⟩ ⟨Nat.le_of_ble_eq_true rfl, rfl, rfl⟩ (Nat.le_of_ble_eq_true rfl) rfl ?_
                    refine ex_beq rfl (fun h50 => ?_) (fun h50 => ?_)
                    · exfalso; omega
                    · refine ex_st 4 (pc' := 26) (ls' := [(0, xr 143), (1, xi t), (2, xi x)]) (st' := [xi 2, xi 1, xi t, xr 143]) rfl ?_
                      refine ex_call (ct_m_in (by first | omega | (constructor <;> omega) | assumption) (by first | omega | (constructor <;> omega) | assumption) (by first | omega | (constructor <;> omega) | assumption)) (by decide) rfl ⟨rfl, rfl, rfl⟩ ⟨Nat.le_of_ble_eq_true rfl, rfl, rfl⟩ (Nat.le_of_ble_eq_true rfl) rfl ?_
                      refine ex_beq rfl (fun h51 => ?_) (fun h51 => ?_)
                      · refine ex_st 2 (pc' := 44) (ls' := [(0, xr 143), (1, xi t), (2, xi x)]) (st' := [xi 3, xi t]) rfl ?_
                        refine ex_ic rfl (by first | omega | (constructor <;> omega) | assumption) (by decide) (fun (h52 : ¬ t = 3) => ?_) (fun (h52 : ¬ ¬ t = 3) => ?_)
                        · exfalso; omega
                        · refine ex_st 2 (pc' := 49) (ls' := [(0, xr 143), (1, xi t), (2, xi x)]) (st' := [xi x, xr 143]) rfl ?_
                          refine ex_call (ct_m_isDigitNumber (by first | omega | (constructor <;> omega) | assumption)) (by decide) rfl ⟨rfl, rfl, rfl⟩ ⟨Nat.le_of_ble_eq_true rfl, rfl, rfl⟩ (Nat.le_of_ble_eq_true rfl) rfl ?_
                          refine ex_bne rfl (fun h53 => ?_) (fun h53 => ?_)
                          · refine ex_st 2 (pc' := 62) (ls' := [(0, xr 143), (1, xi t), (2, xi x)]) (st' := [xi (I 143 43)]) rfl ?_
                            rw [hc0]
                            refine ex_st 1 (pc' := 64) (ls' := [(0, xr 143), (1, xi t), (2, xi x)]) (st' := [xi 10, xi (↑c)]) rfl ?_
                            refine ex_ic rfl (by first | omega | (constructor <;> omega) | assumption) (by decide) (fun (h54 : ¬ (↑c : Int) = 10) => ?_) (fun (h54 : ¬ ¬ (↑c : Int) = 10) => ?_)
                            · exfalso; omega
                            · refine ex_st 1 (pc' := 69) (ls' := [(0, xr 143), (1, xi t), (2, xi x)]) (st' := [xi (-4)]) rfl ?_
                              refine ex_reti rfl rfl ?_
                              exact ⟨x_req (by first | rfl | omega), _, _, rfl, hR⟩
                          · exfalso; omega
                      · exfalso; omega
                  · exfalso; omega
              · refine ex_st 1 (pc' := 63) (ls' := [(0, xr 0), (1, xi t), (2, xi x)]) (st' := [xi (-2)]) rfl ?_
                refine ex_reti rfl rfl ?_
                refine x_CQ.of (M := xM_m_plan) rfl (Nat.le_of_ble_eq_true rfl) ?_
                refine ex_st 2 (pc' := 2) (ls' := [(0, xr 143), (1, xi t), (2, xi x)]) (st' := [xi (-1), xi t]) rfl ?_
                refine ex_ic rfl (by first | omega | (constructor <;> omega) | assumption) (by decide) (fun (h55 : ¬ t = (-1)) => ?_) (fun (h55 : ¬ ¬ t = (-1)) => ?_)
                · refine ex_st 4 (pc' := 16) (ls' := [(0, xr 143), (1, xi t), (2, xi x)]) (st' := [xi 3, xi 0, xi t, xr 143]) rfl ?_
                  refine ex_call (ct_m_in (by first | omega | (constructor <;> omega) | assumption) (by first | omega | (constructor <;> omega) | assumption) (by first | omega | (constructor <;> omega) | assumption)) (by decide) rfl ⟨rfl, rfl, rfl⟩ ⟨Nat.le_of_ble_eq_true rfl, rfl, rfl⟩ (Nat.le_of_ble_eq_true rfl) rfl ?_
                  refine ex_beq rfl (fun h56 => ?_) (fun h56 => ?_)
                  · exfalso; omega
                  · refine ex_st 4 (pc' := 26) (ls' := [(0, xr 143), (1, xi t), (2, xi x)]) (st' := [xi 2, xi 1, xi t, xr 143]) rfl ?_
                    refine ex_call (ct_m_in (by first | omega | (constructor <;> omega) | assumption) (by first | omega | (constructor <;> omega) | assumption) (by first | omega | (constructor <;> omega) | assumption)) (by decide) rfl ⟨rfl, rfl, rfl⟩ ⟨Nat.le_of_ble_eq_true rfl, rfl, rfl⟩ (Nat.le_of_ble_eq_true rfl) rfl ?_
                    refine ex_beq rfl (fun h57 => ?_) (fun h57 => ?_)
                    · refine ex_st 2 (pc' := 44) (ls' := [(0, xr 143), (1, xi t), (2, xi x)]) (st' := [xi 3, xi t]) rfl ?_
                      refine ex_ic rfl (by first | omega | (constructor <;> omega) | assumption) (by decide) (fun (h58 : ¬ t = 3) => ?_) (fun (h58 : ¬ ¬ t = 3) => ?_)
                      · exfalso; omega
                      · refine ex_st 2 (pc' := 49) (ls' := [(0, xr 143), (1, xi t), (2, xi x)]) (st' := [xi x, xr 143]) rfl ?_
                        refine ex_call (ct_m_isDigitNumber (by first | omega | (constructor <;> omega) | assumption)) (by decide) rfl ⟨rfl, rfl, rfl⟩ ⟨Nat.le_of_ble_eq_true rfl, rfl, rfl⟩ (Nat.le_of_ble_eq_true rfl) rfl ?_
                        refine ex_bne rfl (fun h59 => ?_) (fun h59 => ?_)
                        · exfalso; omega
                        · refine ex_st 1 (pc' := 57) (ls' := [(0, xr 143), (1, xi t), (2, xi x)]) (st' := [xi (-2)]) rfl ?_
                          refine ex_reti rfl rfl ?_
                          exact ⟨x_req (by first | rfl | omega), _, _, rfl, hR⟩
                    · exfalso; omega
                · exfalso; omega
          · refine ex_st 2 (pc' := 41) (ls' := [(0, xr 0), (1, xi t), (2, xi x)]) (st' := [xi x, xr 0]) rfl ?_
            refine ex_call (ct_G_isOfficial2 (c := I 1 1) (by first | omega | (constructor <;> omega) | assumption | ((repeat rw [x_up_far (by omega)]); first | rfl | omega | (constructor <;> omega))) (by (repeat rw [x_up_far (by omega)]); try rfl) (by first | omega | (constructor <;> omega) | assumption | ((repeat rw [x_up_far (by omega)]); first | rfl | omega | (constructor <;> omega)))) (by decide) rfl ⟨rfl, rfl, rfl⟩ ⟨Nat.le_of_ble_eq_true rfl, rfl, rfl⟩ (Nat.le_of_ble_eq_true rfl) rfl ?_
            refine ex_bne rfl (fun h60 => ?_) (fun h60 => ?_)
            · refine ex_st 2 (pc' := 51) (ls' := [(0, xr 0), (1, xi t), (2, xi x)]) (st' := [xi 3, xi t]) rfl ?_
              refine ex_ic rfl (by first | omega | (constructor <;> omega) | assumption) (by decide) (fun (h61 : ¬ t = 3) => ?_) (fun (h61 : ¬ ¬ t = 3) => ?_)
              · refine ex_st 7 (pc' := 75) (ls' := [(0, xr 0), (1, xi t), (2, xi x)]) (st' := [xi 0, xi 0, xi x, xi t, xr 7]) rfl ?_
                refine ex_inl (M' := xM_Rw_add) (as := [xr 7, xi t, xi x, xi 0, xi 0]) (rest := []) (D' := 28) rfl (Nat.le_of_ble_eq_true rfl) (by decide) rfl ⟨rfl, rfl, rfl⟩ ⟨Nat.le_of_ble_eq_true rfl, rfl, rfl⟩ (Nat.le_of_ble_eq_true rfl) rfl ?_
                refine ex_st 2 (pc' := 4) (ls' := [(0, xr 7), (1, xi t), (2, xi x), (3, xi 0), (4, xi 0)]) (st' := [xi (I 7 2)]) rfl ?_
                rw [hc1]
                refine ex_st 2 (pc' := 8) (ls' := [(0, xr 7), (1, xi t), (2, xi x), (3, xi 0), (4, xi 0)]) (st' := [xi (I 7 0), xi (↑c)]) rfl ?_
                rw [hz4]
                refine ex_ic rfl (by first | omega | (constructor <;> omega) | assumption) (by decide) (fun (h62 : (↑c : Int) < 10) => ?_) (fun (h62 : ¬ (↑c : Int) < 10) => ?_)
                · refine ex_st 4 (pc' := 21) (ls' := [(0, xr 7), (1, xi t), (2, xi x), (3, xi 0), (4, xi 0)]) (st' := [xi (I 7 2), xr 8]) rfl ?_
                  rw [hc1]
                  refine ex_st 3 (pc' := 24) (ls' := [(0, xr 7), (1, xi t), (2, xi x), (3, xi 0), (4, xi 0)]) (st' := [xi t, xi ((↑c) * 4), xr 8]) rfl ?_
                  refine ex_iast (j := ((c) * 4)) rfl (by decide) (rfl : xSH[8]? = some _) (by omega) (by omega) (by decide) ?_
                  refine ex_st 4 (pc' := 33) (ls' := [(0, xr 7), (1, xi t), (2, xi x), (3, xi 0), (4, xi 0)]) (st' := [xi ((x_up I 8 ((c) * 4) t) 7 2), xr 8]) rfl ?_
                  rw [(x_up_far (by first | decide | omega) : (x_up I 8 ((c) * 4) t) 7 2 = I 7 2)]
                  rw [hc1]
                  refine ex_st 5 (pc' := 38) (ls' := [(0, xr 7), (1, xi t), (2, xi x), (3, xi 0), (4, xi 0)]) (st' := [xi x, xi (((↑c) * 4) + 1), xr 8]) rfl ?_
                  refine ex_iast (j := (((c) * 4) + 1)) rfl (by decide) (rfl : xSH[8]? = some _) (by omega) (by omega) (by decide) ?_
                  refine ex_st 4 (pc' := 47) (ls' := [(0, xr 7), (1, xi t), (2, xi x), (3, xi 0), (4, xi 0)]) (st' := [xi ((x_up (x_up I 8 ((c) * 4) t) 8 (((c) * 4) + 1) x) 7 2), xr 8]) rfl ?_
                  rw [(x_up_far (by first | decide | omega) : (x_up (x_up I 8 ((c) * 4) t) 8 (((c) * 4) + 1) x) 7 2 = (x_up I 8 ((c) * 4) t) 7 2)]
                  rw [(x_up_far (by first | decide | omega) : (x_up I 8 ((c) * 4) t) 7 2 = I 7 2)]
                  rw [hc1]
                  refine ex_st 5 (pc' := 52) (ls' := [(0, xr 7), (1, xi t), (2, xi x), (3, xi 0), (4, xi 0)]) (st' := [xi 0, xi (((↑c) * 4) + 2), xr 8]) rfl ?_
                  refine ex_iast (j := (((c) * 4) + 2)) rfl (by decide) (rfl : xSH[8]? = some _) (by omega) (by omega) (by decide) ?_
                  refine ex_st 4 (pc' := 61) (ls' := [(0, xr 7), (1, xi t), (2, xi x), (3, xi 0), (4, xi 0)]) (st' := [xi ((x_up (x_up (x_up I 8 ((c) * 4) t) 8 (((c) * 4) + 1) x) 8 (((c) * 4) + 2) 0) 7 2), xr 8]) rfl ?_
                  rw [(x_up_far (by first | decide | omega) : (x_up (x_up (x_up I 8 ((c) * 4) t) 8 (((c) * 4) + 1) x) 8 (((c) * 4) + 2) 0) 7 2 = (x_up (x_up I 8 ((c) * 4) t) 8 (((c) * 4) + 1) x) 7 2)]
                  rw [(x_up_far (by first | decide | omega) : (x_up (x_up I 8 ((c) * 4) t) 8 (((c) * 4) + 1) x) 7 2 = (x_up I 8 ((c) * 4) t) 7 2)]
                  rw [(x_up_far (by first | decide | omega) : (x_up I 8 ((c) * 4) t) 7 2 = I 7 2)]
                  rw [hc1]
                  refine ex_st 5 (pc' := 67) (ls' := [(0, xr 7), (1, xi t), (2, xi x), (3, xi 0), (4, xi 0)]) (st' := [xi 0, xi (((↑c) * 4) + 3), xr 8]) rfl ?_
                  refine ex_iast (j := (((c) * 4) + 3)) rfl (by decide) (rfl : xSH[8]? = some _) (by omega) (by omega) (by decide) ?_
                  refine ex_st 3 (pc' := 73) (ls' := [(0, xr 7), (1, xi t), (2, xi x), (3, xi 0), (4, xi 0)]) (st' := [xi ((x_up (x_up (x_up (x_up I 8 ((c) * 4) t) 8 (((c) * 4) + 1) x) 8 (((c) * 4) + 2) 0) 8 (((c) * 4) + 3) 0) 7 2), xr 7]) rfl ?_
                  rw [(x_up_far (by first | decide | omega) : (x_up (x_up (x_up (x_up I 8 ((c) * 4) t) 8 (((c) * 4) + 1) x) 8 (((c) * 4) + 2) 0) 8 (((c) * 4) + 3) 0) 7 2 = (x_up (x_up (x_up I 8 ((c) * 4) t) 8 (((c) * 4) + 1) x) 8 (((c) * 4) + 2) 0) 7 2)]
                  rw [(x_up_far (by first | decide | omega) : (x_up (x_up (x_up I 8 ((c) * 4) t) 8 (((c) * 4) + 1) x) 8 (((c) * 4) + 2) 0) 7 2 = (x_up (x_up I 8 ((c) * 4) t) 8 (((c) * 4) + 1) x) 7 2)]
                  rw [(x_up_far (by first | decide | omega) : (x_up (x_up I 8 ((c) * 4) t) 8 (((c) * 4) + 1) x) 7 2 = (x_up I 8 ((c) * 4) t) 7 2)]
                  rw [(x_up_far (by first | decide | omega) : (x_up I 8 ((c) * 4) t) 7 2 = I 7 2)]
                  rw [hc1]
                  refine ex_st 2 (pc' := 75) (ls' := [(0, xr 7), (1, xi t), (2, xi x), (3, xi 0), (4, xi 0)]) (st' := [xi ((↑c) + 1), xr 7]) rfl ?_
                  refine ex_pfi rfl (by decide) (rfl : xSH[7]? = some _) (by decide) rfl (by decide) (fun h => by cases h) ?_
                  refine ex_st 1 (pc' := 79) (ls' := [(0, xr 7), (1, xi t), (2, xi x), (3, xi 0), (4, xi 0)]) (st' := [xi 1]) rfl ?_
                  refine ex_retz rfl (Or.inr rfl) rfl ?_
                  refine ex_st 1 (pc' := 81) (ls' := [(0, xr 0), (1, xi t), (2, xi x)]) (st' := []) rfl ?_
                  refine ex_st 4 (pc' := 91) (ls' := [(0, xr 0), (1, xi t), (2, xi x)]) (st' := [xi ((x_up (x_up (x_up (x_up (x_up I 8 ((c) * 4) t) 8 (((c) * 4) + 1) x) 8 (((c) * 4) + 2) 0) 8 (((c) * 4) + 3) 0) 7 2 ((↑c) + 1)) 7 2)]) rfl ?_
                  rw [x_up_at (x_up (x_up (x_up (x_up I 8 ((c) * 4) t) 8 (((c) * 4) + 1) x) 8 (((c) * 4) + 2) 0) 8 (((c) * 4) + 3) 0) 7 2 ((↑c) + 1)]
                  refine ex_st 1 (pc' := 96) (ls' := [(0, xr 0), (1, xi t), (2, xi x)]) (st' := [xi ((↑c) + 1)]) rfl ?_
                  refine ex_reti rfl rfl ?_
                  refine x_CQ.of (M := xM_m_plan) rfl (Nat.le_of_ble_eq_true rfl) ?_
                  refine ex_st 2 (pc' := 2) (ls' := [(0, xr 143), (1, xi t), (2, xi x)]) (st' := [xi (-1), xi t]) rfl ?_
                  refine ex_ic rfl (by first | omega | (constructor <;> omega) | assumption) (by decide) (fun (h63 : ¬ t = (-1)) => ?_) (fun (h63 : ¬ ¬ t = (-1)) => ?_)
                  · refine ex_st 4 (pc' := 16) (ls' := [(0, xr 143), (1, xi t), (2, xi x)]) (st' := [xi 3, xi 0, xi t, xr 143]) rfl ?_
                    refine ex_call (ct_m_in (by first | omega | (constructor <;> omega) | assumption) (by first | omega | (constructor <;> omega) | assumption) (by first | omega | (constructor <;> omega) | assumption)) (by decide) rfl ⟨rfl, rfl, rfl⟩ ⟨Nat.le_of_ble_eq_true rfl, rfl, rfl⟩ (Nat.le_of_ble_eq_true rfl) rfl ?_
                    refine ex_beq rfl (fun h64 => ?_) (fun h64 => ?_)
                    · exfalso; omega
                    · refine ex_st 4 (pc' := 26) (ls' := [(0, xr 143), (1, xi t), (2, xi x)]) (st' := [xi 2, xi 1, xi t, xr 143]) rfl ?_
                      refine ex_call (ct_m_in (by first | omega | (constructor <;> omega) | assumption) (by first | omega | (constructor <;> omega) | assumption) (by first | omega | (constructor <;> omega) | assumption)) (by decide) rfl ⟨rfl, rfl, rfl⟩ ⟨Nat.le_of_ble_eq_true rfl, rfl, rfl⟩ (Nat.le_of_ble_eq_true rfl) rfl ?_
                      refine ex_beq rfl (fun h65 => ?_) (fun h65 => ?_)
                      · exfalso; omega
                      · refine ex_st 2 (pc' := 34) (ls' := [(0, xr 143), (1, xi t), (2, xi x)]) (st' := [xi x, xr 143]) rfl ?_
                        refine ex_call (ct_m_isOfficial2 (c := I 143 0) (by first | omega | (constructor <;> omega) | assumption | ((repeat rw [x_up_far (by omega)]); first | rfl | omega | (constructor <;> omega))) (by (repeat rw [x_up_far (by omega)]); try rfl) (by first | omega | (constructor <;> omega) | assumption | ((repeat rw [x_up_far (by omega)]); first | rfl | omega | (constructor <;> omega)))) (by decide) rfl ⟨rfl, rfl, rfl⟩ ⟨Nat.le_of_ble_eq_true rfl, rfl, rfl⟩ (Nat.le_of_ble_eq_true rfl) rfl ?_
                        refine ex_bne rfl (fun h66 => ?_) (fun h66 => ?_)
                        · refine ex_st 2 (pc' := 44) (ls' := [(0, xr 143), (1, xi t), (2, xi x)]) (st' := [xi 3, xi t]) rfl ?_
                          refine ex_ic rfl (by first | omega | (constructor <;> omega) | assumption) (by decide) (fun (h67 : ¬ t = 3) => ?_) (fun (h67 : ¬ ¬ t = 3) => ?_)
                          · refine ex_st 2 (pc' := 62) (ls' := [(0, xr 143), (1, xi t), (2, xi x)]) (st' := [xi ((x_up (x_up (x_up (x_up (x_up I 8 ((c) * 4) t) 8 (((c) * 4) + 1) x) 8 (((c) * 4) + 2) 0) 8 (((c) * 4) + 3) 0) 7 2 ((↑c) + 1)) 143 43)]) rfl ?_
                            rw [(x_up_far (by first | decide | omega) : (x_up (x_up (x_up (x_up (x_up I 8 ((c) * 4) t) 8 (((c) * 4) + 1) x) 8 (((c) * 4) + 2) 0) 8 (((c) * 4) + 3) 0) 7 2 ((↑c) + 1)) 143 43 = (x_up (x_up (x_up (x_up I 8 ((c) * 4) t) 8 (((c) * 4) + 1) x) 8 (((c) * 4) + 2) 0) 8 (((c) * 4) + 3) 0) 143 43)]
                            rw [(x_up_far (by first | decide | omega) : (x_up (x_up (x_up (x_up I 8 ((c) * 4) t) 8 (((c) * 4) + 1) x) 8 (((c) * 4) + 2) 0) 8 (((c) * 4) + 3) 0) 143 43 = (x_up (x_up (x_up I 8 ((c) * 4) t) 8 (((c) * 4) + 1) x) 8 (((c) * 4) + 2) 0) 143 43)]
                            rw [(x_up_far (by first | decide | omega) : (x_up (x_up (x_up I 8 ((c) * 4) t) 8 (((c) * 4) + 1) x) 8 (((c) * 4) + 2) 0) 143 43 = (x_up (x_up I 8 ((c) * 4) t) 8 (((c) * 4) + 1) x) 143 43)]
                            rw [(x_up_far (by first | decide | omega) : (x_up (x_up I 8 ((c) * 4) t) 8 (((c) * 4) + 1) x) 143 43 = (x_up I 8 ((c) * 4) t) 143 43)]
                            rw [(x_up_far (by first | decide | omega) : (x_up I 8 ((c) * 4) t) 143 43 = I 143 43)]
                            rw [hc0]
                            refine ex_st 1 (pc' := 64) (ls' := [(0, xr 143), (1, xi t), (2, xi x)]) (st' := [xi 10, xi (↑c)]) rfl ?_
                            refine ex_ic rfl (by first | omega | (constructor <;> omega) | assumption) (by decide) (fun (h68 : ¬ (↑c : Int) = 10) => ?_) (fun (h68 : ¬ ¬ (↑c : Int) = 10) => ?_)
                            · refine ex_st 4 (pc' := 78) (ls' := [(0, xr 143), (1, xi t), (2, xi x)]) (st' := [xi ((x_up (x_up (x_up (x_up (x_up I 8 ((c) * 4) t) 8 (((c) * 4) + 1) x) 8 (((c) * 4) + 2) 0) 8 (((c) * 4) + 3) 0) 7 2 ((↑c) + 1)) 143 43), xr 169]) rfl ?_
                              rw [(x_up_far (by first | decide | omega) : (x_up (x_up (x_up (x_up (x_up I 8 ((c) * 4) t) 8 (((c) * 4) + 1) x) 8 (((c) * 4) + 2) 0) 8 (((c) * 4) + 3) 0) 7 2 ((↑c) + 1)) 143 43 = (x_up (x_up (x_up (x_up I 8 ((c) * 4) t) 8 (((c) * 4) + 1) x) 8 (((c) * 4) + 2) 0) 8 (((c) * 4) + 3) 0) 143 43)]
                              rw [(x_up_far (by first | decide | omega) : (x_up (x_up (x_up (x_up I 8 ((c) * 4) t) 8 (((c) * 4) + 1) x) 8 (((c) * 4) + 2) 0) 8 (((c) * 4) + 3) 0) 143 43 = (x_up (x_up (x_up I 8 ((c) * 4) t) 8 (((c) * 4) + 1) x) 8 (((c) * 4) + 2) 0) 143 43)]
                              rw [(x_up_far (by first | decide | omega) : (x_up (x_up (x_up I 8 ((c) * 4) t) 8 (((c) * 4) + 1) x) 8 (((c) * 4) + 2) 0) 143 43 = (x_up (x_up I 8 ((c) * 4) t) 8 (((c) * 4) + 1) x) 143 43)]
                              rw [(x_up_far (by first | decide | omega) : (x_up (x_up I 8 ((c) * 4) t) 8 (((c) * 4) + 1) x) 143 43 = (x_up I 8 ((c) * 4) t) 143 43)]
                              rw [(x_up_far (by first | decide | omega) : (x_up I 8 ((c) * 4) t) 143 43 = I 143 43)]
                              rw [hc0]
                              refine ex_st 1 (pc' := 79) (ls' := [(0, xr 143), (1, xi t), (2, xi x)]) (st' := [xi t, xi (↑c), xr 169]) rfl ?_
                              refine ex_iast (j := c) rfl (by decide) (rfl : xSH[169]? = some _) (by omega) (by omega) (by decide) ?_
                              refine ex_st 4 (pc' := 88) (ls' := [(0, xr 143), (1, xi t), (2, xi x)]) (st' := [xi ((x_up (x_up (x_up (x_up (x_up (x_up I 8 ((c) * 4) t) 8 (((c) * 4) + 1) x) 8 (((c) * 4) + 2) 0) 8 (((c) * 4) + 3) 0) 7 2 ((↑c) + 1)) 169 c t) 143 43), xr 170]) rfl ?_
                              rw [(x_up_far (by first | decide | omega) : (x_up (x_up (x_up (x_up (x_up (x_up I 8 ((c) * 4) t) 8 (((c) * 4) + 1) x) 8 (((c) * 4) + 2) 0) 8 (((c) * 4) + 3) 0) 7 2 ((↑c) + 1)) 169 c t) 143 43 = (x_up (x_up (x_up (x_up (x_up I 8 ((c) * 4) t) 8 (((c) * 4) + 1) x) 8 (((c) * 4) + 2) 0) 8 (((c) * 4) + 3) 0) 7 2 ((↑c) + 1)) 143 43)]
                              rw [(x_up_far (by first | decide | omega) : (x_up (x_up (x_up (x_up (x_up I 8 ((c) * 4) t) 8 (((c) * 4) + 1) x) 8 (((c) * 4) + 2) 0) 8 (((c) * 4) + 3) 0) 7 2 ((↑c) + 1)) 143 43 = (x_up (x_up (x_up (x_up I 8 ((c) * 4) t) 8 (((c) * 4) + 1) x) 8 (((c) * 4) + 2) 0) 8 (((c) * 4) + 3) 0) 143 43)]
                              rw [(x_up_far (by first | decide | omega) : (x_up (x_up (x_up (x_up I 8 ((c) * 4) t) 8 (((c) * 4) + 1) x) 8 (((c) * 4) + 2) 0) 8 (((c) * 4) + 3) 0) 143 43 = (x_up (x_up (x_up I 8 ((c) * 4) t) 8 (((c) * 4) + 1) x) 8 (((c) * 4) + 2) 0) 143 43)]
                              rw [(x_up_far (by first | decide | omega) : (x_up (x_up (x_up I 8 ((c) * 4) t) 8 (((c) * 4) + 1) x) 8 (((c) * 4) + 2) 0) 143 43 = (x_up (x_up I 8 ((c) * 4) t) 8 (((c) * 4) + 1) x) 143 43)]
                              rw [(x_up_far (by first | decide | omega) : (x_up (x_up I 8 ((c) * 4) t) 8 (((c) * 4) + 1) x) 143 43 = (x_up I 8 ((c) * 4) t) 143 43)]
                              rw [(x_up_far (by first | decide | omega) : (x_up I 8 ((c) * 4) t) 143 43 = I 143 43)]
                              rw [hc0]
                              refine ex_st 1 (pc' := 89) (ls' := [(0, xr 143), (1, xi t), (2, xi x)]) (st' := [xi t, xi (↑c), xr 170]) rfl ?_
                              refine ex_if rfl (by first | omega | (constructor <;> omega) | assumption) (fun (h69 : t ≤ 0) => ?_) (fun (h69 : ¬ t ≤ 0) => ?_)
                              · exfalso; omega
                              · refine ex_st 2 (pc' := 97) (ls' := [(0, xr 143), (1, xi t), (2, xi x)]) (st' := [xi x, xi (↑c), xr 170]) rfl ?_
                                refine ex_iast (j := c) rfl (by decide) (rfl : xSH[170]? = some _) (by omega) (by omega) (by decide) ?_
                                refine ex_st 3 (pc' := 103) (ls' := [(0, xr 143), (1, xi t), (2, xi x)]) (st' := [xi ((x_up (x_up (x_up (x_up (x_up (x_up (x_up I 8 ((c) * 4) t) 8 (((c) * 4) + 1) x) 8 (((c) * 4) + 2) 0) 8 (((c) * 4) + 3) 0) 7 2 ((↑c) + 1)) 169 c t) 170 c x) 143 43), xr 143]) rfl ?_
                                rw [(x_up_far (by first | decide | omega) : (x_up (x_up (x_up (x_up (x_up (x_up (x_up I 8 ((c) * 4) t) 8 (((c) * 4) + 1) x) 8 (((c) * 4) + 2) 0) 8 (((c) * 4) + 3) 0) 7 2 ((↑c) + 1)) 169 c t) 170 c x) 143 43 = (x_up (x_up (x_up (x_up (x_up (x_up I 8 ((c) * 4) t) 8 (((c) * 4) + 1) x) 8 (((c) * 4) + 2) 0) 8 (((c) * 4) + 3) 0) 7 2 ((↑c) + 1)) 169 c t) 143 43)]
                                rw [(x_up_far (by first | decide | omega) : (x_up (x_up (x_up (x_up (x_up (x_up I 8 ((c) * 4) t) 8 (((c) * 4) + 1) x) 8 (((c) * 4) + 2) 0) 8 (((c) * 4) + 3) 0) 7 2 ((↑c) + 1)) 169 c t) 143 43 = (x_up (x_up (x_up (x_up (x_up I 8 ((c) * 4) t) 8 (((c) * 4) + 1) x) 8 (((c) * 4) + 2) 0) 8 (((c) * 4) + 3) 0) 7 2 ((↑c) + 1)) 143 43)]
                                rw [(x_up_far (by first | decide | omega) : (x_up (x_up (x_up (x_up (x_up I 8 ((c) * 4) t) 8 (((c) * 4) + 1) x) 8 (((c) * 4) + 2) 0) 8 (((c) * 4) + 3) 0) 7 2 ((↑c) + 1)) 143 43 = (x_up (x_up (x_up (x_up I 8 ((c) * 4) t) 8 (((c) * 4) + 1) x) 8 (((c) * 4) + 2) 0) 8 (((c) * 4) + 3) 0) 143 43)]
                                rw [(x_up_far (by first | decide | omega) : (x_up (x_up (x_up (x_up I 8 ((c) * 4) t) 8 (((c) * 4) + 1) x) 8 (((c) * 4) + 2) 0) 8 (((c) * 4) + 3) 0) 143 43 = (x_up (x_up (x_up I 8 ((c) * 4) t) 8 (((c) * 4) + 1) x) 8 (((c) * 4) + 2) 0) 143 43)]
                                rw [(x_up_far (by first | decide | omega) : (x_up (x_up (x_up I 8 ((c) * 4) t) 8 (((c) * 4) + 1) x) 8 (((c) * 4) + 2) 0) 143 43 = (x_up (x_up I 8 ((c) * 4) t) 8 (((c) * 4) + 1) x) 143 43)]
                                rw [(x_up_far (by first | decide | omega) : (x_up (x_up I 8 ((c) * 4) t) 8 (((c) * 4) + 1) x) 143 43 = (x_up I 8 ((c) * 4) t) 143 43)]
                                rw [(x_up_far (by first | decide | omega) : (x_up I 8 ((c) * 4) t) 143 43 = I 143 43)]
                                rw [hc0]
                                refine ex_st 2 (pc' := 105) (ls' := [(0, xr 143), (1, xi t), (2, xi x)]) (st' := [xi ((↑c) + 1), xr 143]) rfl ?_
                                refine ex_pfi rfl (by decide) (rfl : xSH[143]? = some _) (by decide) rfl (by decide) (fun h => by cases h) ?_
                                refine ex_st 2 (pc' := 112) (ls' := [(0, xr 143), (1, xi t), (2, xi x)]) (st' := [xi ((x_up (x_up (x_up (x_up (x_up (x_up (x_up (x_up I 8 ((c) * 4) t) 8 (((c) * 4) + 1) x) 8 (((c) * 4) + 2) 0) 8 (((c) * 4) + 3) 0) 7 2 ((↑c) + 1)) 169 c t) 170 c x) 143 43 ((↑c) + 1)) 143 43)]) rfl ?_
                                rw [x_up_at (x_up (x_up (x_up (x_up (x_up (x_up (x_up I 8 ((c) * 4) t) 8 (((c) * 4) + 1) x) 8 (((c) * 4) + 2) 0) 8 (((c) * 4) + 3) 0) 7 2 ((↑c) + 1)) 169 c t) 170 c x) 143 43 ((↑c) + 1)]
                                refine ex_reti rfl rfl ?_
                                refine ⟨x_req (by first | rfl | omega), ?_⟩
                                refine ⟨_, _, rfl, ?_⟩
                                generalize hM : (x_up (x_up (x_up (x_up (x_up (x_up (x_up (x_up I 8 ((c) * 4) t) 8 (((c) * 4) + 1) x) 8 (((c) * 4) + 2) 0) 8 (((c) * 4) + 3) 0) 7 2 ((↑c) + 1)) 169 c t) 170 c x) 143 43 ((↑c) + 1)) = I2
                                have hF : ∀ k j, ¬ ((k = 143 ∧ j = 43) ∨ (k = 170 ∧ j = c) ∨ (k = 169 ∧ j = c) ∨ (k = 7 ∧ j = 2) ∨ (k = 8 ∧ j = ((c) * 4) + 3) ∨ (k = 8 ∧ j = ((c) * 4) + 2) ∨ (k = 8 ∧ j = ((c) * 4) + 1) ∨ (k = 8 ∧ j = (c) * 4)) → I2 k j = I k j := by intro k j hk; rw [← hM]; (repeat rw [x_up_far (by omega)])
                                have hw0 : I2 143 43 = ((↑c) + 1) := by rw [← hM]; (repeat (first | rw [x_up_far (by omega)] | rw [x_up_at2 (by omega) (by omega)]))
                                have hw1 : I2 170 c = x := by rw [← hM]; (repeat (first | rw [x_up_far (by omega)] | rw [x_up_at2 (by omega) (by omega)]))
                                have hw2 : I2 169 c = t := by rw [← hM]; (repeat (first | rw [x_up_far (by omega)] | rw [x_up_at2 (by omega) (by omega)]))
                                have hw3 : I2 7 2 = ((↑c) + 1) := by rw [← hM]; (repeat (first | rw [x_up_far (by omega)] | rw [x_up_at2 (by omega) (by omega)]))
                                have hw4 : I2 8 (((c) * 4) + 3) = 0 := by rw [← hM]; (repeat (first | rw [x_up_far (by omega)] | rw [x_up_at2 (by omega) (by omega)]))
                                have hw5 : I2 8 (((c) * 4) + 2) = 0 := by rw [← hM]; (repeat (first | rw [x_up_far (by omega)] | rw [x_up_at2 (by omega) (by omega)]))
                                have hw6 : I2 8 (((c) * 4) + 1) = x := by rw [← hM]; (repeat (first | rw [x_up_far (by omega)] | rw [x_up_at2 (by omega) (by omega)]))
                                have hw7 : I2 8 ((c) * 4) = t := by rw [← hM]; (repeat (first | rw [x_up_far (by omega)] | rw [x_up_at2 (by omega) (by omega)]))
                                clear hM
                                have hI2 : RIw I2 := by
                                  obtain ⟨gs, go, ga, gb, gr, gd, gg, ge, gp, gk⟩ := id hI
                                  exact ⟨gs.fr ⟨by (repeat rw [hF _ _ (by omega)]); try rfl, by (repeat rw [hF _ _ (by omega)]); try rfl, by (repeat rw [hF _ _ (by omega)]); try rfl, by (repeat rw [hF _ _ (by omega)]); try rfl, by (repeat rw [hF _ _ (by omega)]); try rfl, by (repeat rw [hF _ _ (by omega)]); try rfl, by (repeat rw [hF _ _ (by omega)]); try rfl, by (repeat rw [hF _ _ (by omega)]); try rfl, by (repeat rw [hF _ _ (by omega)]); try rfl⟩, go.fr (by intros; (repeat rw [hF _ _ (by omega)]); try rfl) (by intros; (repeat rw [hF _ _ (by omega)]); try rfl), ga.fr (by intros; (repeat rw [hF _ _ (by omega)]); try rfl) (by (repeat rw [hF _ _ (by omega)]); try rfl), gb.fr (by intros; (repeat rw [hF _ _ (by omega)]); try rfl) (by intros; (repeat rw [hF _ _ (by omega)]); try rfl), gr.fr (by intros; (repeat rw [hF _ _ (by omega)]); try rfl) (by intros; (repeat rw [hF _ _ (by omega)]); try rfl), gd.fr (by intros; (repeat rw [hF _ _ (by omega)]); try rfl) (by intros; (repeat rw [hF _ _ (by omega)]); try rfl) (by (repeat rw [hF _ _ (by omega)]); try rfl), gg.fr ⟨by (repeat rw [hF _ _ (by omega)]); try rfl, by (repeat rw [hF _ _ (by omega)]); try rfl⟩ (by intros; (repeat rw [hF _ _ (by omega)]); try rfl) (by intros; (repeat rw [hF _ _ (by omega)]); try rfl), ge.fr ⟨by (repeat rw [hF _ _ (by omega)]); try rfl, by (repeat rw [hF _ _ (by omega)]); try rfl, by (repeat rw [hF _ _ (by omega)]); try rfl⟩ (by intros; (repeat rw [hF _ _ (by omega)]); try rfl) (by intros; (repeat rw [hF _ _ (by omega)]); try rfl), gp.fr ⟨by (repeat rw [hF _ _ (by omega)]); try rfl, by (repeat rw [hF _ _ (by omega)]); try rfl, by (repeat rw [hF _ _ (by omega)]); try rfl⟩ (by intros; (repeat rw [hF _ _ (by omega)]); try rfl) (by intros; (repeat rw [hF _ _ (by omega)]); try rfl), gk.fr ⟨by (repeat rw [hF _ _ (by omega)]); try rfl, by (repeat rw [hF _ _ (by omega)]); try rfl, by (repeat rw [hF _ _ (by omega)]); try rfl⟩ (by intros; (repeat rw [hF _ _ (by omega)]); try rfl) (by intros; (repeat rw [hF _ _ (by omega)]); try rfl)⟩
                                refine ⟨⟨hNs.fr ⟨by (repeat rw [hF _ _ (by omega)]); try rfl, by (repeat rw [hF _ _ (by omega)]); try rfl, by (repeat rw [hF _ _ (by omega)]); try rfl, by (repeat rw [hF _ _ (by omega)]); try rfl, by (repeat rw [hF _ _ (by omega)]); try rfl, by (repeat rw [hF _ _ (by omega)]); try rfl, by (repeat rw [hF _ _ (by omega)]); try rfl, by (repeat rw [hF _ _ (by omega)]); try rfl, by (repeat rw [hF _ _ (by omega)]); try rfl⟩, hNo.fr (by intros; (repeat rw [hF _ _ (by omega)]); try rfl) (by intros; (repeat rw [hF _ _ (by omega)]); try rfl), hNa.fr (by intros; (repeat rw [hF _ _ (by omega)]); try rfl) (by (repeat rw [hF _ _ (by omega)]); try rfl), hNb.fr (by intros; (repeat rw [hF _ _ (by omega)]); try rfl) (by intros; (repeat rw [hF _ _ (by omega)]); try rfl), hNr.fr (by intros; (repeat rw [hF _ _ (by omega)]); try rfl) (by intros; (repeat rw [hF _ _ (by omega)]); try rfl), hNd.fr (by intros; (repeat rw [hF _ _ (by omega)]); try rfl) (by intros; (repeat rw [hF _ _ (by omega)]); try rfl) (by (repeat rw [hF _ _ (by omega)]); try rfl), hNg.fr ⟨by (repeat rw [hF _ _ (by omega)]); try rfl, by (repeat rw [hF _ _ (by omega)]); try rfl⟩ (by intros; (repeat rw [hF _ _ (by omega)]); try rfl) (by intros; (repeat rw [hF _ _ (by omega)]); try rfl), hNe.fr ⟨by (repeat rw [hF _ _ (by omega)]); try rfl, by (repeat rw [hF _ _ (by omega)]); try rfl, by (repeat rw [hF _ _ (by omega)]); try rfl⟩ (by intros; (repeat rw [hF _ _ (by omega)]); try rfl) (by intros; (repeat rw [hF _ _ (by omega)]); try rfl), ?_, hNk.fr ⟨by (repeat rw [hF _ _ (by omega)]); try rfl, by (repeat rw [hF _ _ (by omega)]); try rfl, by (repeat rw [hF _ _ (by omega)]); try rfl⟩ (by intros; (repeat rw [hF _ _ (by omega)]); try rfl) (by intros; (repeat rw [hF _ _ (by omega)]); try rfl)⟩, hI2, hT.fr ⟨by (repeat rw [hF _ _ (by omega)]); try rfl, by (repeat rw [hF _ _ (by omega)]); try rfl⟩ (by intros; (repeat rw [hF _ _ (by omega)]); try rfl) (by intros; (repeat rw [hF _ _ (by omega)]); try rfl) (by intros; (repeat rw [hF _ _ (by omega)]); try rfl), hX.fr ⟨by (repeat rw [hF _ _ (by omega)]); try rfl, by (repeat rw [hF _ _ (by omega)]); try rfl⟩ (by intros; (repeat rw [hF _ _ (by omega)]); try rfl), hC.fr ⟨by (repeat rw [hF _ _ (by omega)]); try rfl, by (repeat rw [hF _ _ (by omega)]); try rfl⟩ (by intros; (repeat rw [hF _ _ (by omega)]); try rfl), hH.fr ⟨by (repeat rw [hF _ _ (by omega)]); try rfl, by (repeat rw [hF _ _ (by omega)]); try rfl, by (repeat rw [hF _ _ (by omega)]); try rfl⟩ (by intros; (repeat rw [hF _ _ (by omega)]); try rfl) (by intros; (repeat rw [hF _ _ (by omega)]); try rfl), hQ.fr (by intros; (repeat rw [hF _ _ (by omega)]); try rfl) (by intros; (repeat rw [hF _ _ (by omega)]); try rfl) (by intros; (repeat rw [hF _ _ (by omega)]); try rfl) (by intros; (repeat rw [hF _ _ (by omega)]); try rfl)⟩
                                · refine ⟨by (repeat (first | rw [hw0] | rw [hw1] | rw [hw2] | rw [hw3] | rw [hw4] | rw [hw5] | rw [hw6] | rw [hw7] | rw [hF _ _ (by omega)])); try omega, by (repeat (first | rw [hw0] | rw [hw1] | rw [hw2] | rw [hw3] | rw [hw4] | rw [hw5] | rw [hw6] | rw [hw7] | rw [hF _ _ (by omega)])); omega, by (repeat (first | rw [hw0] | rw [hw1] | rw [hw2] | rw [hw3] | rw [hw4] | rw [hw5] | rw [hw6] | rw [hw7] | rw [hF _ _ (by omega)])); omega, by (repeat (first | rw [hw0] | rw [hw1] | rw [hw2] | rw [hw3] | rw [hw4] | rw [hw5] | rw [hw6] | rw [hw7] | rw [hF _ _ (by omega)])); try exact hz4, fun x hx => ?_⟩
                                  rw [hw0] at hx
                                  by_cases hxc : x = c
                                  · subst hxc; (repeat (first | rw [hw0] | rw [hw1] | rw [hw2] | rw [hw3] | rw [hw4] | rw [hw5] | rw [hw6] | rw [hw7] | rw [hF _ _ (by omega)])); omega
                                  · have h := hz5 x (by omega)
                                    (repeat (first | rw [hw0] | rw [hw1] | rw [hw2] | rw [hw3] | rw [hw4] | rw [hw5] | rw [hw6] | rw [hw7] | rw [hF _ _ (by omega)]))
                                    exact h
                            · exfalso; omega
                          · exfalso; omega
                        · exfalso; omega
                  · exfalso; omega
                · refine ex_st 1 (pc' := 12) (ls' := [(0, xr 7), (1, xi t), (2, xi x), (3, xi 0), (4, xi 0)]) (st' := [xi 0]) rfl ?_
                  refine ex_retz rfl (Or.inl rfl) rfl ?_
                  refine ex_st 1 (pc' := 94) (ls' := [(0, xr 0), (1, xi t), (2, xi x)]) (st' := []) rfl ?_
                  refine ex_st 1 (pc' := 96) (ls' := [(0, xr 0), (1, xi t), (2, xi x)]) (st' := [xi (-4)]) rfl ?_
                  refine ex_reti rfl rfl ?_
                  refine x_CQ.of (M := xM_m_plan) rfl (Nat.le_of_ble_eq_true rfl) ?_
                  refine ex_st 2 (pc' := 2) (ls' := [(0, xr 143), (1, xi t), (2, xi x)]) (st' := [xi (-1), xi t]) rfl ?_
                  refine ex_ic rfl (by first | omega | (constructor <;> omega) | assumption) (by decide) (fun (h70 : ¬ t = (-1)) => ?_) (fun (h70 : ¬ ¬ t = (-1)) => ?_)
                  · refine ex_st 4 (pc' := 16) (ls' := [(0, xr 143), (1, xi t), (2, xi x)]) (st' := [xi 3, xi 0, xi t, xr 143]) rfl ?_
                    refine ex_call (ct_m_in (by first | omega | (constructor <;> omega) | assumption) (by first | omega | (constructor <;> omega) | assumption) (by first | omega | (constructor <;> omega) | assumption)) (by decide) rfl ⟨rfl, rfl, rfl⟩ ⟨Nat.le_of_ble_eq_true rfl, rfl, rfl⟩ (Nat.le_of_ble_eq_true rfl) rfl ?_
                    refine ex_beq rfl (fun h71 => ?_) (fun h71 => ?_)
                    · exfalso; omega
                    · refine ex_st 4 (pc' := 26) (ls' := [(0, xr 143), (1, xi t), (2, xi x)]) (st' := [xi 2, xi 1, xi t, xr 143]) rfl ?_
                      refine ex_call (ct_m_in (by first | omega | (constructor <;> omega) | assumption) (by first | omega | (constructor <;> omega) | assumption) (by first | omega | (constructor <;> omega) | assumption)) (by decide) rfl ⟨rfl, rfl, rfl⟩ ⟨Nat.le_of_ble_eq_true rfl, rfl, rfl⟩ (Nat.le_of_ble_eq_true rfl) rfl ?_
                      refine ex_beq rfl (fun h72 => ?_) (fun h72 => ?_)
                      · exfalso; omega
                      · refine ex_st 2 (pc' := 34) (ls' := [(0, xr 143), (1, xi t), (2, xi x)]) (st' := [xi x, xr 143]) rfl ?_
                        refine ex_call (ct_m_isOfficial2 (c := I 143 0) (by first | omega | (constructor <;> omega) | assumption | ((repeat rw [x_up_far (by omega)]); first | rfl | omega | (constructor <;> omega))) (by (repeat rw [x_up_far (by omega)]); try rfl) (by first | omega | (constructor <;> omega) | assumption | ((repeat rw [x_up_far (by omega)]); first | rfl | omega | (constructor <;> omega)))) (by decide) rfl ⟨rfl, rfl, rfl⟩ ⟨Nat.le_of_ble_eq_true rfl, rfl, rfl⟩ (Nat.le_of_ble_eq_true rfl) rfl ?_
                        refine ex_bne rfl (fun h73 => ?_) (fun h73 => ?_)
                        · refine ex_st 2 (pc' := 44) (ls' := [(0, xr 143), (1, xi t), (2, xi x)]) (st' := [xi 3, xi t]) rfl ?_
                          refine ex_ic rfl (by first | omega | (constructor <;> omega) | assumption) (by decide) (fun (h74 : ¬ t = 3) => ?_) (fun (h74 : ¬ ¬ t = 3) => ?_)
                          · refine ex_st 2 (pc' := 62) (ls' := [(0, xr 143), (1, xi t), (2, xi x)]) (st' := [xi (I 143 43)]) rfl ?_
                            rw [hc0]
                            refine ex_st 1 (pc' := 64) (ls' := [(0, xr 143), (1, xi t), (2, xi x)]) (st' := [xi 10, xi (↑c)]) rfl ?_
                            refine ex_ic rfl (by first | omega | (constructor <;> omega) | assumption) (by decide) (fun (h75 : ¬ (↑c : Int) = 10) => ?_) (fun (h75 : ¬ ¬ (↑c : Int) = 10) => ?_)
                            · exfalso; omega
                            · refine ex_st 1 (pc' := 69) (ls' := [(0, xr 143), (1, xi t), (2, xi x)]) (st' := [xi (-4)]) rfl ?_
                              refine ex_reti rfl rfl ?_
                              exact ⟨x_req (by first | rfl | omega), _, _, rfl, hR⟩
                          · exfalso; omega
                        · exfalso; omega
                  · exfalso; omega
              · exfalso; omega
            · refine ex_st 1 (pc' := 48) (ls' := [(0, xr 0), (1, xi t), (2, xi x)]) (st' := [xi (-1)]) rfl ?_
              refine ex_reti rfl rfl ?_
              refine x_CQ.of (M := xM_m_plan) rfl (Nat.le_of_ble_eq_true rfl) ?_
              refine ex_st 2 (pc' := 2) (ls' := [(0, xr 143), (1, xi t), (2, xi x)]) (st' := [xi (-1), xi t]) rfl ?_
              refine ex_ic rfl (by first | omega | (constructor <;> omega) | assumption) (by decide) (fun (h76 : ¬ t = (-1)) => ?_) (fun (h76 : ¬ ¬ t = (-1)) => ?_)
              · refine ex_st 4 (pc' := 16) (ls' := [(0, xr 143), (1, xi t), (2, xi x)]) (st' := [xi 3, xi 0, xi t, xr 143]) rfl ?_
                refine ex_call (ct_m_in (by first | omega | (constructor <;> omega) | assumption) (by first | omega | (constructor <;> omega) | assumption) (by first | omega | (constructor <;> omega) | assumption)) (by decide) rfl ⟨rfl, rfl, rfl⟩ ⟨Nat.le_of_ble_eq_true rfl, rfl, rfl⟩ (Nat.le_of_ble_eq_true rfl) rfl ?_
                refine ex_beq rfl (fun h77 => ?_) (fun h77 => ?_)
                · exfalso; omega
                · refine ex_st 4 (pc' := 26) (ls' := [(0, xr 143), (1, xi t), (2, xi x)]) (st' := [xi 2, xi 1, xi t, xr 143]) rfl ?_
                  refine ex_call (ct_m_in (by first | omega | (constructor <;> omega) | assumption) (by first | omega | (constructor <;> omega) | assumption) (by first | omega | (constructor <;> omega) | assumption)) (by decide) rfl ⟨rfl, rfl, rfl⟩ ⟨Nat.le_of_ble_eq_true rfl, rfl, rfl⟩ (Nat.le_of_ble_eq_true rfl) rfl ?_
                  refine ex_beq rfl (fun h78 => ?_) (fun h78 => ?_)
                  · exfalso; omega
                  · refine ex_st 2 (pc' := 34) (ls' := [(0, xr 143), (1, xi t), (2, xi x)]) (st' := [xi x, xr 143]) rfl ?_
                    refine ex_call (ct_m_isOfficial2 (c := I 143 0) (by first | omega | (constructor <;> omega) | assumption | ((repeat rw [x_up_far (by omega)]); first | rfl | omega | (constructor <;> omega))) (by (repeat rw [x_up_far (by omega)]); try rfl) (by first | omega | (constructor <;> omega) | assumption | ((repeat rw [x_up_far (by omega)]); first | rfl | omega | (constructor <;> omega)))) (by decide) rfl ⟨rfl, rfl, rfl⟩ ⟨Nat.le_of_ble_eq_true rfl, rfl, rfl⟩ (Nat.le_of_ble_eq_true rfl) rfl ?_
                    refine ex_bne rfl (fun h79 => ?_) (fun h79 => ?_)
                    · exfalso; omega
                    · refine ex_st 1 (pc' := 41) (ls' := [(0, xr 143), (1, xi t), (2, xi x)]) (st' := [xi (-1)]) rfl ?_
                      refine ex_reti rfl rfl ?_
                      exact ⟨x_req (by first | rfl | omega), _, _, rfl, hR⟩
              · exfalso; omega
      · refine ex_st 1 (pc' := 28) (ls' := [(0, xr 0), (1, xi t), (2, xi x)]) (st' := [xi (-1)]) rfl ?_
        refine ex_reti rfl rfl ?_
        refine x_CQ.of (M := xM_m_plan) rfl (Nat.le_of_ble_eq_true rfl) ?_
        refine ex_st 2 (pc' := 2) (ls' := [(0, xr 143), (1, xi t), (2, xi x)]) (st' := [xi (-1), xi t]) rfl ?_
        refine ex_ic rfl (by first | omega | (constructor <;> omega) | assumption) (by decide) (fun (h80 : ¬ t = (-1)) => ?_) (fun (h80 : ¬ ¬ t = (-1)) => ?_)
        · refine ex_st 4 (pc' := 16) (ls' := [(0, xr 143), (1, xi t), (2, xi x)]) (st' := [xi 3, xi 0, xi t, xr 143]) rfl ?_
          refine ex_call (ct_m_in (by first | omega | (constructor <;> omega) | assumption) (by first | omega | (constructor <;> omega) | assumption) (by first | omega | (constructor <;> omega) | assumption)) (by decide) rfl ⟨rfl, rfl, rfl⟩ ⟨Nat.le_of_ble_eq_true rfl, rfl, rfl⟩ (Nat.le_of_ble_eq_true rfl) rfl ?_
          refine ex_beq rfl (fun h81 => ?_) (fun h81 => ?_)
          · refine ex_st 1 (pc' := 41) (ls' := [(0, xr 143), (1, xi t), (2, xi x)]) (st' := [xi (-1)]) rfl ?_
            refine ex_reti rfl rfl ?_
            exact ⟨x_req (by first | rfl | omega), _, _, rfl, hR⟩
          · exfalso; omega
        · exfalso; omega
  · refine ex_st 4 (pc' := 13) (ls' := [(0, xr 0), (1, xi t), (2, xi x)]) (st' := [xi 0, xr 7]) rfl ?_
    refine ex_pfi rfl (by decide) (rfl : xSH[7]? = some _) (by decide) rfl (by decide) (fun h => by cases h) ?_
    refine ex_st 1 (pc' := 17) (ls' := [(0, xr 0), (1, xi t), (2, xi x)]) (st' := [xi 0]) rfl ?_
    refine ex_reti rfl rfl ?_
    refine x_CQ.of (M := xM_m_plan) rfl (Nat.le_of_ble_eq_true rfl) ?_
    refine ex_st 2 (pc' := 2) (ls' := [(0, xr 143), (1, xi t), (2, xi x)]) (st' := [xi (-1), xi t]) rfl ?_
    refine ex_ic rfl (by first | omega | (constructor <;> omega) | assumption) (by decide) (fun (h82 : ¬ t = (-1)) => ?_) (fun (h82 : ¬ ¬ t = (-1)) => ?_)
    · exfalso; omega
    · refine ex_st 2 (pc' := 7) (ls' := [(0, xr 143), (1, xi t), (2, xi x)]) (st' := [xi 0, xr 143]) rfl ?_
      refine ex_pfi rfl (by decide) (rfl : xSH[143]? = some _) (by decide) rfl (by decide) (fun h => by cases h) ?_
      refine ex_st 1 (pc' := 11) (ls' := [(0, xr 143), (1, xi t), (2, xi x)]) (st' := [xi 0]) rfl ?_
      refine ex_reti rfl rfl ?_
      refine ⟨x_req (by first | rfl | omega), ?_⟩
      refine ⟨_, _, rfl, ?_⟩
      generalize hM : (x_up (x_up I 7 2 0) 143 43 0) = I2
      have hF : ∀ k j, ¬ ((k = 143 ∧ j = 43) ∨ (k = 7 ∧ j = 2)) → I2 k j = I k j := by intro k j hk; rw [← hM]; (repeat rw [x_up_far (by omega)])
      have hw0 : I2 143 43 = 0 := by rw [← hM]; (repeat (first | rw [x_up_far (by omega)] | rw [x_up_at2 (by omega) (by omega)]))
      have hw1 : I2 7 2 = 0 := by rw [← hM]; (repeat (first | rw [x_up_far (by omega)] | rw [x_up_at2 (by omega) (by omega)]))
      clear hM
      have hI2 : RIw I2 := by
        obtain ⟨gs, go, ga, gb, gr, gd, gg, ge, gp, gk⟩ := id hI
        exact ⟨gs.fr ⟨by (repeat rw [hF _ _ (by omega)]); try rfl, by (repeat rw [hF _ _ (by omega)]); try rfl, by (repeat rw [hF _ _ (by omega)]); try rfl, by (repeat rw [hF _ _ (by omega)]); try rfl, by (repeat rw [hF _ _ (by omega)]); try rfl, by (repeat rw [hF _ _ (by omega)]); try rfl, by (repeat rw [hF _ _ (by omega)]); try rfl, by (repeat rw [hF _ _ (by omega)]); try rfl, by (repeat rw [hF _ _ (by omega)]); try rfl⟩, go.fr (by intros; (repeat rw [hF _ _ (by omega)]); try rfl) (by intros; (repeat rw [hF _ _ (by omega)]); try rfl), ga.fr (by intros; (repeat rw [hF _ _ (by omega)]); try rfl) (by (repeat rw [hF _ _ (by omega)]); try rfl), gb.fr (by intros; (repeat rw [hF _ _ (by omega)]); try rfl) (by intros; (repeat rw [hF _ _ (by omega)]); try rfl), gr.fr (by intros; (repeat rw [hF _ _ (by omega)]); try rfl) (by intros; (repeat rw [hF _ _ (by omega)]); try rfl), gd.fr (by intros; (repeat rw [hF _ _ (by omega)]); try rfl) (by intros; (repeat rw [hF _ _ (by omega)]); try rfl) (by (repeat rw [hF _ _ (by omega)]); try rfl), gg.fr ⟨by (repeat rw [hF _ _ (by omega)]); try rfl, by (repeat rw [hF _ _ (by omega)]); try rfl⟩ (by intros; (repeat rw [hF _ _ (by omega)]); try rfl) (by intros; (repeat rw [hF _ _ (by omega)]); try rfl), ge.fr ⟨by (repeat rw [hF _ _ (by omega)]); try rfl, by (repeat rw [hF _ _ (by omega)]); try rfl, by (repeat rw [hF _ _ (by omega)]); try rfl⟩ (by intros; (repeat rw [hF _ _ (by omega)]); try rfl) (by intros; (repeat rw [hF _ _ (by omega)]); try rfl), gp.fr ⟨by (repeat rw [hF _ _ (by omega)]); try rfl, by (repeat rw [hF _ _ (by omega)]); try rfl, by (repeat rw [hF _ _ (by omega)]); try rfl⟩ (by intros; (repeat rw [hF _ _ (by omega)]); try rfl) (by intros; (repeat rw [hF _ _ (by omega)]); try rfl), gk.fr ⟨by (repeat rw [hF _ _ (by omega)]); try rfl, by (repeat rw [hF _ _ (by omega)]); try rfl, by (repeat rw [hF _ _ (by omega)]); try rfl⟩ (by intros; (repeat rw [hF _ _ (by omega)]); try rfl) (by intros; (repeat rw [hF _ _ (by omega)]); try rfl)⟩
      refine ⟨⟨hNs.fr ⟨by (repeat rw [hF _ _ (by omega)]); try rfl, by (repeat rw [hF _ _ (by omega)]); try rfl, by (repeat rw [hF _ _ (by omega)]); try rfl, by (repeat rw [hF _ _ (by omega)]); try rfl, by (repeat rw [hF _ _ (by omega)]); try rfl, by (repeat rw [hF _ _ (by omega)]); try rfl, by (repeat rw [hF _ _ (by omega)]); try rfl, by (repeat rw [hF _ _ (by omega)]); try rfl, by (repeat rw [hF _ _ (by omega)]); try rfl⟩, hNo.fr (by intros; (repeat rw [hF _ _ (by omega)]); try rfl) (by intros; (repeat rw [hF _ _ (by omega)]); try rfl), hNa.fr (by intros; (repeat rw [hF _ _ (by omega)]); try rfl) (by (repeat rw [hF _ _ (by omega)]); try rfl), hNb.fr (by intros; (repeat rw [hF _ _ (by omega)]); try rfl) (by intros; (repeat rw [hF _ _ (by omega)]); try rfl), hNr.fr (by intros; (repeat rw [hF _ _ (by omega)]); try rfl) (by intros; (repeat rw [hF _ _ (by omega)]); try rfl), hNd.fr (by intros; (repeat rw [hF _ _ (by omega)]); try rfl) (by intros; (repeat rw [hF _ _ (by omega)]); try rfl) (by (repeat rw [hF _ _ (by omega)]); try rfl), hNg.fr ⟨by (repeat rw [hF _ _ (by omega)]); try rfl, by (repeat rw [hF _ _ (by omega)]); try rfl⟩ (by intros; (repeat rw [hF _ _ (by omega)]); try rfl) (by intros; (repeat rw [hF _ _ (by omega)]); try rfl), hNe.fr ⟨by (repeat rw [hF _ _ (by omega)]); try rfl, by (repeat rw [hF _ _ (by omega)]); try rfl, by (repeat rw [hF _ _ (by omega)]); try rfl⟩ (by intros; (repeat rw [hF _ _ (by omega)]); try rfl) (by intros; (repeat rw [hF _ _ (by omega)]); try rfl), ?_, hNk.fr ⟨by (repeat rw [hF _ _ (by omega)]); try rfl, by (repeat rw [hF _ _ (by omega)]); try rfl, by (repeat rw [hF _ _ (by omega)]); try rfl⟩ (by intros; (repeat rw [hF _ _ (by omega)]); try rfl) (by intros; (repeat rw [hF _ _ (by omega)]); try rfl)⟩, hI2, hT.fr ⟨by (repeat rw [hF _ _ (by omega)]); try rfl, by (repeat rw [hF _ _ (by omega)]); try rfl⟩ (by intros; (repeat rw [hF _ _ (by omega)]); try rfl) (by intros; (repeat rw [hF _ _ (by omega)]); try rfl) (by intros; (repeat rw [hF _ _ (by omega)]); try rfl), hX.fr ⟨by (repeat rw [hF _ _ (by omega)]); try rfl, by (repeat rw [hF _ _ (by omega)]); try rfl⟩ (by intros; (repeat rw [hF _ _ (by omega)]); try rfl), hC.fr ⟨by (repeat rw [hF _ _ (by omega)]); try rfl, by (repeat rw [hF _ _ (by omega)]); try rfl⟩ (by intros; (repeat rw [hF _ _ (by omega)]); try rfl), hH.fr ⟨by (repeat rw [hF _ _ (by omega)]); try rfl, by (repeat rw [hF _ _ (by omega)]); try rfl, by (repeat rw [hF _ _ (by omega)]); try rfl⟩ (by intros; (repeat rw [hF _ _ (by omega)]); try rfl) (by intros; (repeat rw [hF _ _ (by omega)]); try rfl), hQ.fr (by intros; (repeat rw [hF _ _ (by omega)]); try rfl) (by intros; (repeat rw [hF _ _ (by omega)]); try rfl) (by intros; (repeat rw [hF _ _ (by omega)]); try rfl) (by intros; (repeat rw [hF _ _ (by omega)]); try rfl)⟩
      · refine ⟨by (repeat (first | rw [hw0] | rw [hw1] | rw [hF _ _ (by omega)])); try omega, by (repeat (first | rw [hw0] | rw [hw1] | rw [hF _ _ (by omega)])); omega, by (repeat (first | rw [hw0] | rw [hw1] | rw [hF _ _ (by omega)])); omega, by (repeat (first | rw [hw0] | rw [hw1] | rw [hF _ _ (by omega)])); try exact hz4, fun x hx => ?_⟩
        exfalso; rw [hw0] at hx; omega
