/-! pairs of calls: against, of, odds, agenda -/
set_option maxRecDepth 8000 in
set_option maxHeartbeats 2000000 in
theorem op_against {sc : List Int} {I : Nat → Nat → Int} {L : Nat → Nat → Int64} (hR : Rl I L) {x y w : Int} (hx : x_R x) (hy : x_R y) (hw : x_R w) : x_PQ sc xN_G_against [xr 0, xi x, xi y, xi w] xN_m_against [xr 143, xi x, xi y, xi w] (xSH, I, L) := by
  obtain ⟨⟨hNs, hNo, hNa, hNb, hNr, hNd, hNg, hNe, hNp, hNk⟩, hI, hT, hX, hC, hH, hQ⟩ := id hR
  have hs := hNs
  unfold RNs at hs
  obtain ⟨c, kd, vv, vo, aw, ba, ro, egg, se, hWW, hM⟩ := hR.vw
  have hT2 := hT
  unfold RT at hT2
  obtain ⟨T, nn, cc, cd, we, en, qv, hXt⟩ := RT.tr hT (t := I 143 13) (by omega) (by omega)
  have hX2 := id hXt
  obtain ⟨u1, u2, u3, u4, u5, u6, u7, u8, u9, u10⟩ := hX2
  have hMT := u10 rfl
  obtain ⟨g, hg1, hg, hgs, hgp⟩ := hM.pres
  have hI17 : I 1 7 = I 143 13 := by omega
  have hs64 := sp_mask64 (sp_nz aw) (n := c) (by have := hWW.2.1; omega)
  have hsN : sp_mask (sp_nz aw) c = (((sp_mask (sp_nz aw) c).toNat : Nat) : Int) := by have := (sp_mask_bd (sp_nz aw) c).1; omega
  obtain ⟨hg_1, hg_2, hg_3, hg_4, hg_5, hg_6⟩ := id hNg
  obtain ⟨n, hn⟩ := Int.eq_ofNat_of_zero_le hg_2
  obtain ⟨ag, hag0⟩ : ∃ ag : Nat → Nat, ∀ k, ag k = (I 150 k).toNat := ⟨_, fun _ => rfl⟩
  have hag : ∀ k, k < n → I 150 k = (ag k : Int) ∧ ag k < 5 := fun k hk => by have h1 := hg_5 k (by omega); have h2 := hag0 k; omega
  have hvo : ∀ p, p < c → 0 ≤ vo p ∧ vo p ≤ 9 := fun p hp => (hM.2.2.2.2.2.2.2 p hp).2.2.2.2.2.1
  by_cases hv : (0 ≤ x ∧ x < 5) ∧ (0 ≤ y ∧ y < 5)
  · obtain ⟨p, rfl⟩ := Int.eq_ofNat_of_zero_le hv.1.1
    obtain ⟨q, rfl⟩ := Int.eq_ofNat_of_zero_le hv.2.1
    refine x_CQ.of (M := xM_G_against) rfl (Nat.le_of_ble_eq_true rfl) ?_
    refine ex_st 1 (pc' := 1) (ls' := [(0, xr 0), (1, xi (↑p)), (2, xi (↑q)), (3, xi w)]) (st' := [xi (↑p)]) rfl ?_
    refine ex_call (ct_G_isThing (by first | omega | (constructor <;> omega) | assumption)) (by decide) rfl ⟨rfl, rfl, rfl⟩ ⟨Nat.le_of_ble_eq_true rfl, rfl, rfl⟩ (Nat.le_of_ble_eq_true rfl) rfl ?_
    refine ex_beq rfl (fun h0 => ?_) (fun h0 => ?_)
    · exfalso; (first | omega | (simp only [sp_bt] at *; contradiction))
    · refine ex_st 1 (pc' := 8) (ls' := [(0, xr 0), (1, xi (↑p)), (2, xi (↑q)), (3, xi w)]) (st' := [xi (↑q)]) rfl ?_
      refine ex_call (ct_G_isThing (by first | omega | (constructor <;> omega) | assumption)) (by decide) rfl ⟨rfl, rfl, rfl⟩ ⟨Nat.le_of_ble_eq_true rfl, rfl, rfl⟩ (Nat.le_of_ble_eq_true rfl) rfl ?_
      refine ex_beq rfl (fun h1 => ?_) (fun h1 => ?_)
      · exfalso; (first | omega | (simp only [sp_bt] at *; contradiction))
      · refine ex_st 1 (pc' := 15) (ls' := [(0, xr 0), (1, xi (↑p)), (2, xi (↑q)), (3, xi w)]) (st' := [xi w]) rfl ?_
        refine ex_call (ct_G_isZeroOrOne (by first | omega | (constructor <;> omega) | assumption)) (by decide) rfl ⟨rfl, rfl, rfl⟩ ⟨Nat.le_of_ble_eq_true rfl, rfl, rfl⟩ (Nat.le_of_ble_eq_true rfl) rfl ?_
        refine ex_bne rfl (fun h2 => ?_) (fun h2 => ?_)
        · refine ex_st 2 (pc' := 25) (ls' := [(0, xr 0), (1, xi (↑p)), (2, xi (↑q)), (3, xi w)]) (st' := [xi (↑q), xi (↑p)]) rfl ?_
          refine ex_ic rfl (by first | omega | (constructor <;> omega) | assumption) (by first | omega | (constructor <;> omega) | assumption) (fun (h3 : ¬ (↑p : Int) = (↑q : Int)) => ?_) (fun (h3 : ¬ ¬ (↑p : Int) = (↑q : Int)) => ?_)
          · refine ex_st 3 (pc' := 36) (ls' := [(0, xr 0), (1, xi (↑p)), (2, xi (↑q)), (3, xi w)]) (st' := [xr 1, xr 0]) rfl ?_
            refine ex_callQ (ct_G_ballotOf (L := L) WS.mk1 hWW u2 u3 u4 u5 u6 u7 u8 hI17 u9 u1) (by decide) rfl ⟨rfl, rfl, rfl⟩ ⟨Nat.le_of_ble_eq_true rfl, rfl, rfl⟩ (Nat.le_of_ble_eq_true rfl) rfl (fun ra m2 hQ => ?_)
            obtain ⟨rfl, J, rfl, hJ, hBW, hP, hBM⟩ := hQ
            rw [hsN] at hP
            refine ex_st 2 (pc' := 42) (ls' := [(4, xr 92), (0, xr 0), (1, xi (↑p)), (2, xi (↑q)), (3, xi w)]) (st' := [xi w]) rfl ?_
            refine ex_if rfl (by first | omega | (constructor <;> omega) | assumption) (fun (h4 : ¬ w = 0) => ?_) (fun (h4 : ¬ ¬ w = 0) => ?_)
            · refine ex_st 3 (pc' := 62) (ls' := [(4, xr 92), (0, xr 0), (1, xi (↑p)), (2, xi (↑q)), (3, xi w)]) (st' := [xi (↑q), xi (↑p), xr 92]) rfl ?_
              refine ex_call (ct_B_beats hBM (by omega) (by omega)) (by decide) rfl ⟨rfl, rfl, rfl⟩ ⟨Nat.le_of_ble_eq_true rfl, rfl, rfl⟩ (Nat.le_of_ble_eq_true rfl) rfl ?_
              refine ex_beq rfl (fun h5 => ?_) (fun h5 => ?_)
              · refine ex_st 1 (pc' := 73) (ls' := [(4, xr 92), (0, xr 0), (1, xi (↑p)), (2, xi (↑q)), (3, xi w)]) (st' := [xi 0]) rfl ?_
                refine ex_reti rfl rfl ?_
                refine x_CQ.of (M := xM_m_against) rfl (Nat.le_of_ble_eq_true rfl) ?_
                refine ex_st 2 (pc' := 2) (ls' := [(0, xr 143), (1, xi (↑p)), (2, xi (↑q)), (3, xi w)]) (st' := [xi (↑p), xr 143]) rfl ?_
                refine ex_call (ct_m_isThing (by first | omega | (constructor <;> omega) | assumption)) (by decide) rfl ⟨rfl, rfl, rfl⟩ ⟨Nat.le_of_ble_eq_true rfl, rfl, rfl⟩ (Nat.le_of_ble_eq_true rfl) rfl ?_
                refine ex_beq rfl (fun h6 => ?_) (fun h6 => ?_)
                · exfalso; (first | omega | (simp only [sp_bt] at *; contradiction))
                · refine ex_st 2 (pc' := 10) (ls' := [(0, xr 143), (1, xi (↑p)), (2, xi (↑q)), (3, xi w)]) (st' := [xi (↑q), xr 143]) rfl ?_
                  refine ex_call (ct_m_isThing (by first | omega | (constructor <;> omega) | assumption)) (by decide) rfl ⟨rfl, rfl, rfl⟩ ⟨Nat.le_of_ble_eq_true rfl, rfl, rfl⟩ (Nat.le_of_ble_eq_true rfl) rfl ?_
                  refine ex_beq rfl (fun h7 => ?_) (fun h7 => ?_)
                  · exfalso; (first | omega | (simp only [sp_bt] at *; contradiction))
                  · refine ex_st 4 (pc' := 20) (ls' := [(0, xr 143), (1, xi (↑p)), (2, xi (↑q)), (3, xi w)]) (st' := [xi 1, xi 0, xi w, xr 143]) rfl ?_
                    refine ex_call (ct_m_in (by first | omega | (constructor <;> omega) | assumption) (by first | omega | (constructor <;> omega) | assumption) (by first | omega | (constructor <;> omega) | assumption)) (by decide) rfl ⟨rfl, rfl, rfl⟩ ⟨Nat.le_of_ble_eq_true rfl, rfl, rfl⟩ (Nat.le_of_ble_eq_true rfl) rfl ?_
                    refine ex_bne rfl (fun h8 => ?_) (fun h8 => ?_)
                    · refine ex_st 2 (pc' := 30) (ls' := [(0, xr 143), (1, xi (↑p)), (2, xi (↑q)), (3, xi w)]) (st' := [xi (↑q), xi (↑p)]) rfl ?_
                      refine ex_ic rfl (by first | omega | (constructor <;> omega) | assumption) (by first | omega | (constructor <;> omega) | assumption) (fun (h9 : ¬ (↑p : Int) = (↑q : Int)) => ?_) (fun (h9 : ¬ ¬ (↑p : Int) = (↑q : Int)) => ?_)
                      · refine ex_st 1 (pc' := 37) (ls' := [(0, xr 143), (1, xi (↑p)), (2, xi (↑q)), (3, xi w)]) (st' := [xr 143]) rfl ?_
                        have hMx := hM.fr2 (I' := J) (fun k j a b => hJ k j (by omega))
                        have hTx := hMT.fr2 (I' := J) (fun k j a b => hJ k j (by omega))
                        have hgx : J 143 1 = (g : Int) := by rw [hJ _ _ (by omega)]; exact hg1
                        have hnx : J 143 2 = (n : Int) := by rw [hJ _ _ (by omega)]; exact hn
                        have hagx : ∀ k, k < n → J 150 k = (ag k : Int) ∧ ag k < 5 := fun k hk => by rw [hJ _ _ (by omega)]; exact hag k hk
                        have hXI : ∀ k j, ¬ (92 ≤ k ∧ k ≤ 103) → J k j = I k j := fun k j hk => hJ k j (by omega)
                        refine ex_callQ (ct_m_layLikes (L := L) hMx hTx) (by decide) rfl ⟨rfl, rfl, rfl⟩ ⟨Nat.le_of_ble_eq_true rfl, rfl, rfl⟩ (Nat.le_of_ble_eq_true rfl) rfl (fun ra m2 hQ => ?_)
                        obtain ⟨rfl, K, rfl, hLK, hK⟩ := hQ
                        have hKI : ∀ k j, ¬ (92 ≤ k ∧ k ≤ 103) → ¬ x_ms k j → K k j = I k j := fun k j h1 h2 => by rw [hK _ _ (by first | exact h2 | (unfold x_ms at h2; omega)), hXI _ _ h1]
                        have hMK := hM.fr2 (I' := K) (fun k j a b => hKI k j (by omega) (by unfold x_ms; omega))
                        have hTK := hMT.fr2 (I' := K) (fun k j a b => hKI k j (by omega) (by unfold x_ms; omega))
                        have hgK : K 143 1 = (g : Int) := by rw [hKI _ _ (by omega) (by unfold x_ms; omega)]; exact hg1
                        refine ex_st 1 (pc' := 41) (ls' := [(0, xr 143), (1, xi (↑p)), (2, xi (↑q)), (3, xi w)]) (st' := [xi w]) rfl ?_
                        refine ex_if rfl (by first | omega | (constructor <;> omega) | assumption) (fun (h10 : ¬ w = 0) => ?_) (fun (h10 : ¬ ¬ w = 0) => ?_)
                        · refine ex_st 5 (pc' := 62) (ls' := [(0, xr 143), (1, xi (↑p)), (2, xi (↑q)), (3, xi w)]) (st' := [xi (K 143 1), xi (↑q), xi (↑p), xr 143]) rfl ?_
                          rw [(hKI _ _ (by omega) (by unfold x_ms; omega) : K 143 1 = I 143 1), hg1]
                          refine ex_call (ct_m_beats hMK hTK hLK hg hgs (by omega) (by omega)) (by decide) rfl ⟨rfl, rfl, rfl⟩ ⟨Nat.le_of_ble_eq_true rfl, rfl, rfl⟩ (Nat.le_of_ble_eq_true rfl) rfl ?_
                          refine ex_beq rfl (fun h11 => ?_) (fun h11 => ?_)
                          · refine ex_st 1 (pc' := 73) (ls' := [(0, xr 143), (1, xi (↑p)), (2, xi (↑q)), (3, xi w)]) (st' := [xi 0]) rfl ?_
                            refine ex_reti rfl rfl ?_
                            exact ⟨x_req (by first | rfl | omega), _, _, rfl, hR.fr (fun k j hk => hKI k j (by unfold x_scr at hk; omega) (by unfold x_scr at hk; unfold x_ms; omega)) (fun _ _ => rfl)⟩
                          · exfalso; (first | omega | (simp only [sp_bt] at *; contradiction))
                        · exfalso; (first | omega | (simp only [sp_bt] at *; contradiction))
                      · exfalso; (first | omega | (simp only [sp_bt] at *; contradiction))
                    · exfalso; (first | omega | (simp only [sp_bt] at *; contradiction))
              · refine ex_st 2 (pc' := 73) (ls' := [(4, xr 92), (0, xr 0), (1, xi (↑p)), (2, xi (↑q)), (3, xi w)]) (st' := [xi 1]) rfl ?_
                refine ex_reti rfl rfl ?_
                refine x_CQ.of (M := xM_m_against) rfl (Nat.le_of_ble_eq_true rfl) ?_
                refine ex_st 2 (pc' := 2) (ls' := [(0, xr 143), (1, xi (↑p)), (2, xi (↑q)), (3, xi w)]) (st' := [xi (↑p), xr 143]) rfl ?_
                refine ex_call (ct_m_isThing (by first | omega | (constructor <;> omega) | assumption)) (by decide) rfl ⟨rfl, rfl, rfl⟩ ⟨Nat.le_of_ble_eq_true rfl, rfl, rfl⟩ (Nat.le_of_ble_eq_true rfl) rfl ?_
                refine ex_beq rfl (fun h12 => ?_) (fun h12 => ?_)
                · exfalso; (first | omega | (simp only [sp_bt] at *; contradiction))
                · refine ex_st 2 (pc' := 10) (ls' := [(0, xr 143), (1, xi (↑p)), (2, xi (↑q)), (3, xi w)]) (st' := [xi (↑q), xr 143]) rfl ?_
                  refine ex_call (ct_m_isThing (by first | omega | (constructor <;> omega) | assumption)) (by decide) rfl ⟨rfl, rfl, rfl⟩ ⟨Nat.le_of_ble_eq_true rfl, rfl, rfl⟩ (Nat.le_of_ble_eq_true rfl) rfl ?_
                  refine ex_beq rfl (fun h13 => ?_) (fun h13 => ?_)
                  · exfalso; (first | omega | (simp only [sp_bt] at *; contradiction))
                  · refine ex_st 4 (pc' := 20) (ls' := [(0, xr 143), (1, xi (↑p)), (2, xi (↑q)), (3, xi w)]) (st' := [xi 1, xi 0, xi w, xr 143]) rfl ?_
                    refine ex_call (ct_m_in (by first | omega | (constructor <;> omega) | assumption) (by first | omega | (constructor <;> omega) | assumption) (by first | omega | (constructor <;> omega) | assumption)) (by decide) rfl ⟨rfl, rfl, rfl⟩ ⟨Nat.le_of_ble_eq_true rfl, rfl, rfl⟩ (Nat.le_of_ble_eq_true rfl) rfl ?_
                    refine ex_bne rfl (fun h14 => ?_) (fun h14 => ?_)
                    · refine ex_st 2 (pc' := 30) (ls' := [(0, xr 143), (1, xi (↑p)), (2, xi (↑q)), (3, xi w)]) (st' := [xi (↑q), xi (↑p)]) rfl ?_
                      refine ex_ic rfl (by first | omega | (constructor <;> omega) | assumption) (by first | omega | (constructor <;> omega) | assumption) (fun (h15 : ¬ (↑p : Int) = (↑q : Int)) => ?_) (fun (h15 : ¬ ¬ (↑p : Int) = (↑q : Int)) => ?_)
                      · refine ex_st 1 (pc' := 37) (ls' := [(0, xr 143), (1, xi (↑p)), (2, xi (↑q)), (3, xi w)]) (st' := [xr 143]) rfl ?_
                        have hMx := hM.fr2 (I' := J) (fun k j a b => hJ k j (by omega))
                        have hTx := hMT.fr2 (I' := J) (fun k j a b => hJ k j (by omega))
                        have hgx : J 143 1 = (g : Int) := by rw [hJ _ _ (by omega)]; exact hg1
                        have hnx : J 143 2 = (n : Int) := by rw [hJ _ _ (by omega)]; exact hn
                        have hagx : ∀ k, k < n → J 150 k = (ag k : Int) ∧ ag k < 5 := fun k hk => by rw [hJ _ _ (by omega)]; exact hag k hk
                        have hXI : ∀ k j, ¬ (92 ≤ k ∧ k ≤ 103) → J k j = I k j := fun k j hk => hJ k j (by omega)
                        refine ex_callQ (ct_m_layLikes (L := L) hMx hTx) (by decide) rfl ⟨rfl, rfl, rfl⟩ ⟨Nat.le_of_ble_eq_true rfl, rfl, rfl⟩ (Nat.le_of_ble_eq_true rfl) rfl (fun ra m2 hQ => ?_)
                        obtain ⟨rfl, K, rfl, hLK, hK⟩ := hQ
                        have hKI : ∀ k j, ¬ (92 ≤ k ∧ k ≤ 103) → ¬ x_ms k j → K k j = I k j := fun k j h1 h2 => by rw [hK _ _ (by first | exact h2 | (unfold x_ms at h2; omega)), hXI _ _ h1]
                        have hMK := hM.fr2 (I' := K) (fun k j a b => hKI k j (by omega) (by unfold x_ms; omega))
                        have hTK := hMT.fr2 (I' := K) (fun k j a b => hKI k j (by omega) (by unfold x_ms; omega))
                        have hgK : K 143 1 = (g : Int) := by rw [hKI _ _ (by omega) (by unfold x_ms; omega)]; exact hg1
                        refine ex_st 1 (pc' := 41) (ls' := [(0, xr 143), (1, xi (↑p)), (2, xi (↑q)), (3, xi w)]) (st' := [xi w]) rfl ?_
                        refine ex_if rfl (by first | omega | (constructor <;> omega) | assumption) (fun (h16 : ¬ w = 0) => ?_) (fun (h16 : ¬ ¬ w = 0) => ?_)
                        · refine ex_st 5 (pc' := 62) (ls' := [(0, xr 143), (1, xi (↑p)), (2, xi (↑q)), (3, xi w)]) (st' := [xi (K 143 1), xi (↑q), xi (↑p), xr 143]) rfl ?_
                          rw [(hKI _ _ (by omega) (by unfold x_ms; omega) : K 143 1 = I 143 1), hg1]
                          refine ex_call (ct_m_beats hMK hTK hLK hg hgs (by omega) (by omega)) (by decide) rfl ⟨rfl, rfl, rfl⟩ ⟨Nat.le_of_ble_eq_true rfl, rfl, rfl⟩ (Nat.le_of_ble_eq_true rfl) rfl ?_
                          refine ex_beq rfl (fun h17 => ?_) (fun h17 => ?_)
                          · exfalso; (first | omega | (simp only [sp_bt] at *; contradiction))
                          · refine ex_st 2 (pc' := 73) (ls' := [(0, xr 143), (1, xi (↑p)), (2, xi (↑q)), (3, xi w)]) (st' := [xi 1]) rfl ?_
                            refine ex_reti rfl rfl ?_
                            exact ⟨x_req (by first | rfl | omega), _, _, rfl, hR.fr (fun k j hk => hKI k j (by unfold x_scr at hk; omega) (by unfold x_scr at hk; unfold x_ms; omega)) (fun _ _ => rfl)⟩
                        · exfalso; (first | omega | (simp only [sp_bt] at *; contradiction))
                      · exfalso; (first | omega | (simp only [sp_bt] at *; contradiction))
                    · exfalso; (first | omega | (simp only [sp_bt] at *; contradiction))
            · refine ex_st 5 (pc' := 54) (ls' := [(4, xr 92), (0, xr 0), (1, xi (↑p)), (2, xi (↑q)), (3, xi w)]) (st' := [xi (J 92 1), xi (↑q), xi (↑p), xr 92]) rfl ?_
              rw [hP]
              refine ex_call (ct_B_votesFor hBW (by omega) (by omega) hs64) (by decide) rfl ⟨rfl, rfl, rfl⟩ ⟨Nat.le_of_ble_eq_true rfl, rfl, rfl⟩ (Nat.le_of_ble_eq_true rfl) rfl ?_
              refine ex_reti rfl rfl ?_
              refine x_CQ.of (M := xM_m_against) rfl (Nat.le_of_ble_eq_true rfl) ?_
              refine ex_st 2 (pc' := 2) (ls' := [(0, xr 143), (1, xi (↑p)), (2, xi (↑q)), (3, xi w)]) (st' := [xi (↑p), xr 143]) rfl ?_
              refine ex_call (ct_m_isThing (by first | omega | (constructor <;> omega) | assumption)) (by decide) rfl ⟨rfl, rfl, rfl⟩ ⟨Nat.le_of_ble_eq_true rfl, rfl, rfl⟩ (Nat.le_of_ble_eq_true rfl) rfl ?_
              refine ex_beq rfl (fun h18 => ?_) (fun h18 => ?_)
              · exfalso; (first | omega | (simp only [sp_bt] at *; contradiction))
              · refine ex_st 2 (pc' := 10) (ls' := [(0, xr 143), (1, xi (↑p)), (2, xi (↑q)), (3, xi w)]) (st' := [xi (↑q), xr 143]) rfl ?_
                refine ex_call (ct_m_isThing (by first | omega | (constructor <;> omega) | assumption)) (by decide) rfl ⟨rfl, rfl, rfl⟩ ⟨Nat.le_of_ble_eq_true rfl, rfl, rfl⟩ (Nat.le_of_ble_eq_true rfl) rfl ?_
                refine ex_beq rfl (fun h19 => ?_) (fun h19 => ?_)
                · exfalso; (first | omega | (simp only [sp_bt] at *; contradiction))
                · refine ex_st 4 (pc' := 20) (ls' := [(0, xr 143), (1, xi (↑p)), (2, xi (↑q)), (3, xi w)]) (st' := [xi 1, xi 0, xi w, xr 143]) rfl ?_
                  refine ex_call (ct_m_in (by first | omega | (constructor <;> omega) | assumption) (by first | omega | (constructor <;> omega) | assumption) (by first | omega | (constructor <;> omega) | assumption)) (by decide) rfl ⟨rfl, rfl, rfl⟩ ⟨Nat.le_of_ble_eq_true rfl, rfl, rfl⟩ (Nat.le_of_ble_eq_true rfl) rfl ?_
                  refine ex_bne rfl (fun h20 => ?_) (fun h20 => ?_)
                  · refine ex_st 2 (pc' := 30) (ls' := [(0, xr 143), (1, xi (↑p)), (2, xi (↑q)), (3, xi w)]) (st' := [xi (↑q), xi (↑p)]) rfl ?_
                    refine ex_ic rfl (by first | omega | (constructor <;> omega) | assumption) (by first | omega | (constructor <;> omega) | assumption) (fun (h21 : ¬ (↑p : Int) = (↑q : Int)) => ?_) (fun (h21 : ¬ ¬ (↑p : Int) = (↑q : Int)) => ?_)
                    · refine ex_st 1 (pc' := 37) (ls' := [(0, xr 143), (1, xi (↑p)), (2, xi (↑q)), (3, xi w)]) (st' := [xr 143]) rfl ?_
                      have hMx := hM.fr2 (I' := J) (fun k j a b => hJ k j (by omega))
                      have hTx := hMT.fr2 (I' := J) (fun k j a b => hJ k j (by omega))
                      have hgx : J 143 1 = (g : Int) := by rw [hJ _ _ (by omega)]; exact hg1
                      have hnx : J 143 2 = (n : Int) := by rw [hJ _ _ (by omega)]; exact hn
                      have hagx : ∀ k, k < n → J 150 k = (ag k : Int) ∧ ag k < 5 := fun k hk => by rw [hJ _ _ (by omega)]; exact hag k hk
                      have hXI : ∀ k j, ¬ (92 ≤ k ∧ k ≤ 103) → J k j = I k j := fun k j hk => hJ k j (by omega)
                      refine ex_callQ (ct_m_layLikes (L := L) hMx hTx) (by decide) rfl ⟨rfl, rfl, rfl⟩ ⟨Nat.le_of_ble_eq_true rfl, rfl, rfl⟩ (Nat.le_of_ble_eq_true rfl) rfl (fun ra m2 hQ => ?_)
                      obtain ⟨rfl, K, rfl, hLK, hK⟩ := hQ
                      have hKI : ∀ k j, ¬ (92 ≤ k ∧ k ≤ 103) → ¬ x_ms k j → K k j = I k j := fun k j h1 h2 => by rw [hK _ _ (by first | exact h2 | (unfold x_ms at h2; omega)), hXI _ _ h1]
                      have hMK := hM.fr2 (I' := K) (fun k j a b => hKI k j (by omega) (by unfold x_ms; omega))
                      have hTK := hMT.fr2 (I' := K) (fun k j a b => hKI k j (by omega) (by unfold x_ms; omega))
                      have hgK : K 143 1 = (g : Int) := by rw [hKI _ _ (by omega) (by unfold x_ms; omega)]; exact hg1
                      refine ex_st 1 (pc' := 41) (ls' := [(0, xr 143), (1, xi (↑p)), (2, xi (↑q)), (3, xi w)]) (st' := [xi w]) rfl ?_
                      refine ex_if rfl (by first | omega | (constructor <;> omega) | assumption) (fun (h22 : ¬ w = 0) => ?_) (fun (h22 : ¬ ¬ w = 0) => ?_)
                      · exfalso; (first | omega | (simp only [sp_bt] at *; contradiction))
                      · refine ex_st 5 (pc' := 51) (ls' := [(0, xr 143), (1, xi (↑p)), (2, xi (↑q)), (3, xi w)]) (st' := [xi (K 143 1), xi (↑q), xi (↑p), xr 143]) rfl ?_
                        rw [(hKI _ _ (by omega) (by unfold x_ms; omega) : K 143 1 = I 143 1), hg1]
                        refine ex_call (ct_m_votesFor hMK hLK hg hgs (by omega) (by omega)) (by decide) rfl ⟨rfl, rfl, rfl⟩ ⟨Nat.le_of_ble_eq_true rfl, rfl, rfl⟩ (Nat.le_of_ble_eq_true rfl) rfl ?_
                        refine ex_reti rfl rfl ?_
                        exact ⟨x_req (by first | rfl | omega), _, _, rfl, hR.fr (fun k j hk => hKI k j (by unfold x_scr at hk; omega) (by unfold x_scr at hk; unfold x_ms; omega)) (fun _ _ => rfl)⟩
                    · exfalso; (first | omega | (simp only [sp_bt] at *; contradiction))
                  · exfalso; (first | omega | (simp only [sp_bt] at *; contradiction))
          · refine ex_st 1 (pc' := 30) (ls' := [(0, xr 0), (1, xi (↑p)), (2, xi (↑q)), (3, xi w)]) (st' := [xi (-2)]) rfl ?_
            refine ex_reti rfl rfl ?_
            refine x_CQ.of (M := xM_m_against) rfl (Nat.le_of_ble_eq_true rfl) ?_
            refine ex_st 2 (pc' := 2) (ls' := [(0, xr 143), (1, xi (↑p)), (2, xi (↑q)), (3, xi w)]) (st' := [xi (↑p), xr 143]) rfl ?_
            refine ex_call (ct_m_isThing (by first | omega | (constructor <;> omega) | assumption)) (by decide) rfl ⟨rfl, rfl, rfl⟩ ⟨Nat.le_of_ble_eq_true rfl, rfl, rfl⟩ (Nat.le_of_ble_eq_true rfl) rfl ?_
            refine ex_beq rfl (fun h23 => ?_) (fun h23 => ?_)
            · exfalso; (first | omega | (simp only [sp_bt] at *; contradiction))
            · refine ex_st 2 (pc' := 10) (ls' := [(0, xr 143), (1, xi (↑p)), (2, xi (↑q)), (3, xi w)]) (st' := [xi (↑q), xr 143]) rfl ?_
              refine ex_call (ct_m_isThing (by first | omega | (constructor <;> omega) | assumption)) (by decide) rfl ⟨rfl, rfl, rfl⟩ ⟨Nat.le_of_ble_eq_true rfl, rfl, rfl⟩ (Nat.le_of_ble_eq_true rfl) rfl ?_
              refine ex_beq rfl (fun h24 => ?_) (fun h24 => ?_)
              · exfalso; (first | omega | (simp only [sp_bt] at *; contradiction))
              · refine ex_st 4 (pc' := 20) (ls' := [(0, xr 143), (1, xi (↑p)), (2, xi (↑q)), (3, xi w)]) (st' := [xi 1, xi 0, xi w, xr 143]) rfl ?_
                refine ex_call (ct_m_in (by first | omega | (constructor <;> omega) | assumption) (by first | omega | (constructor <;> omega) | assumption) (by first | omega | (constructor <;> omega) | assumption)) (by decide) rfl ⟨rfl, rfl, rfl⟩ ⟨Nat.le_of_ble_eq_true rfl, rfl, rfl⟩ (Nat.le_of_ble_eq_true rfl) rfl ?_
                refine ex_bne rfl (fun h25 => ?_) (fun h25 => ?_)
                · refine ex_st 2 (pc' := 30) (ls' := [(0, xr 143), (1, xi (↑p)), (2, xi (↑q)), (3, xi w)]) (st' := [xi (↑q), xi (↑p)]) rfl ?_
                  refine ex_ic rfl (by first | omega | (constructor <;> omega) | assumption) (by first | omega | (constructor <;> omega) | assumption) (fun (h26 : ¬ (↑p : Int) = (↑q : Int)) => ?_) (fun (h26 : ¬ ¬ (↑p : Int) = (↑q : Int)) => ?_)
                  · exfalso; (first | omega | (simp only [sp_bt] at *; contradiction))
                  · refine ex_st 1 (pc' := 35) (ls' := [(0, xr 143), (1, xi (↑p)), (2, xi (↑q)), (3, xi w)]) (st' := [xi (-2)]) rfl ?_
                    refine ex_reti rfl rfl ?_
                    exact ⟨x_req (by first | rfl | omega), _, _, rfl, hR⟩
                · exfalso; (first | omega | (simp only [sp_bt] at *; contradiction))
        · refine ex_st 1 (pc' := 22) (ls' := [(0, xr 0), (1, xi (↑p)), (2, xi (↑q)), (3, xi w)]) (st' := [xi (-1)]) rfl ?_
          refine ex_reti rfl rfl ?_
          refine x_CQ.of (M := xM_m_against) rfl (Nat.le_of_ble_eq_true rfl) ?_
          refine ex_st 2 (pc' := 2) (ls' := [(0, xr 143), (1, xi (↑p)), (2, xi (↑q)), (3, xi w)]) (st' := [xi (↑p), xr 143]) rfl ?_
          refine ex_call (ct_m_isThing (by first | omega | (constructor <;> omega) | assumption)) (by decide) rfl ⟨rfl, rfl, rfl⟩ ⟨Nat.le_of_ble_eq_true rfl, rfl, rfl⟩ (Nat.le_of_ble_eq_true rfl) rfl ?_
          refine ex_beq rfl (fun h27 => ?_) (fun h27 => ?_)
          · exfalso; (first | omega | (simp only [sp_bt] at *; contradiction))
          · refine ex_st 2 (pc' := 10) (ls' := [(0, xr 143), (1, xi (↑p)), (2, xi (↑q)), (3, xi w)]) (st' := [xi (↑q), xr 143]) rfl ?_
            refine ex_call (ct_m_isThing (by first | omega | (constructor <;> omega) | assumption)) (by decide) rfl ⟨rfl, rfl, rfl⟩ ⟨Nat.le_of_ble_eq_true rfl, rfl, rfl⟩ (Nat.le_of_ble_eq_true rfl) rfl ?_
            refine ex_beq rfl (fun h28 => ?_) (fun h28 => ?_)
            · exfalso; (first | omega | (simp only [sp_bt] at *; contradiction))
            · refine ex_st 4 (pc' := 20) (ls' := [(0, xr 143), (1, xi (↑p)), (2, xi (↑q)), (3, xi w)]) (st' := [xi 1, xi 0, xi w, xr 143]) rfl ?_
              refine ex_call (ct_m_in (by first | omega | (constructor <;> omega) | assumption) (by first | omega | (constructor <;> omega) | assumption) (by first | omega | (constructor <;> omega) | assumption)) (by decide) rfl ⟨rfl, rfl, rfl⟩ ⟨Nat.le_of_ble_eq_true rfl, rfl, rfl⟩ (Nat.le_of_ble_eq_true rfl) rfl ?_
              refine ex_bne rfl (fun h29 => ?_) (fun h29 => ?_)
              · exfalso; (first | omega | (simp only [sp_bt] at *; contradiction))
              · refine ex_st 1 (pc' := 27) (ls' := [(0, xr 143), (1, xi (↑p)), (2, xi (↑q)), (3, xi w)]) (st' := [xi (-1)]) rfl ?_
                refine ex_reti rfl rfl ?_
                exact ⟨x_req (by first | rfl | omega), _, _, rfl, hR⟩
  refine x_CQ.of (M := xM_G_against) rfl (Nat.le_of_ble_eq_true rfl) ?_
  refine ex_st 1 (pc' := 1) (ls' := [(0, xr 0), (1, xi x), (2, xi y), (3, xi w)]) (st' := [xi x]) rfl ?_
  refine ex_call (ct_G_isThing (by first | omega | (constructor <;> omega) | assumption)) (by decide) rfl ⟨rfl, rfl, rfl⟩ ⟨Nat.le_of_ble_eq_true rfl, rfl, rfl⟩ (Nat.le_of_ble_eq_true rfl) rfl ?_
  refine ex_beq rfl (fun h0 => ?_) (fun h0 => ?_)
  · refine ex_st 1 (pc' := 22) (ls' := [(0, xr 0), (1, xi x), (2, xi y), (3, xi w)]) (st' := [xi (-1)]) rfl ?_
    refine ex_reti rfl rfl ?_
    refine x_CQ.of (M := xM_m_against) rfl (Nat.le_of_ble_eq_true rfl) ?_
    refine ex_st 2 (pc' := 2) (ls' := [(0, xr 143), (1, xi x), (2, xi y), (3, xi w)]) (st' := [xi x, xr 143]) rfl ?_
    refine ex_call (ct_m_isThing (by first | omega | (constructor <;> omega) | assumption)) (by decide) rfl ⟨rfl, rfl, rfl⟩ ⟨Nat.le_of_ble_eq_true rfl, rfl, rfl⟩ (Nat.le_of_ble_eq_true rfl) rfl ?_
    refine ex_beq rfl (fun h1 => ?_) (fun h1 => ?_)
    · refine ex_st 1 (pc' := 27) (ls' := [(0, xr 143), (1, xi x), (2, xi y), (3, xi w)]) (st' := [xi (-1)]) rfl ?_
      refine ex_reti rfl rfl ?_
      exact ⟨x_req (by first | rfl | omega), _, _, rfl, hR⟩
    · exfalso; (first | omega | (simp only [sp_bt] at *; contradiction))
  · refine ex_st 1 (pc' := 8) (ls' := [(0, xr 0), (1, xi x), (2, xi y), (3, xi w)]) (st' := [xi y]) rfl ?_
    refine ex_call (ct_G_isThing (by first | omega | (constructor <;> omega) | assumption)) (by decide) rfl ⟨rfl, rfl, rfl⟩ ⟨Nat.le_of_ble_eq_true rfl, rfl, rfl⟩ (Nat.le_of_ble_eq_true rfl) rfl ?_
    refine ex_beq rfl (fun h2 => ?_) (fun h2 => ?_)
    · refine ex_st 1 (pc' := 22) (ls' := [(0, xr 0), (1, xi x), (2, xi y), (3, xi w)]) (st' := [xi (-1)]) rfl ?_
      refine ex_reti rfl rfl ?_
      refine x_CQ.of (M := xM_m_against) rfl (Nat.le_of_ble_eq_true rfl) ?_
      refine ex_st 2 (pc' := 2) (ls' := [(0, xr 143), (1, xi x), (2, xi y), (3, xi w)]) (st' := [xi x, xr 143]) rfl ?_
      refine ex_call (ct_m_isThing (by first | omega | (constructor <;> omega) | assumption)) (by decide) rfl ⟨rfl, rfl, rfl⟩ ⟨Nat.le_of_ble_eq_true rfl, rfl, rfl⟩ (Nat.le_of_ble_eq_true rfl) rfl ?_
      refine ex_beq rfl (fun h3 => ?_) (fun h3 => ?_)
      · exfalso; (first | omega | (simp only [sp_bt] at *; contradiction))
      · refine ex_st 2 (pc' := 10) (ls' := [(0, xr 143), (1, xi x), (2, xi y), (3, xi w)]) (st' := [xi y, xr 143]) rfl ?_
        refine ex_call (ct_m_isThing (by first | omega | (constructor <;> omega) | assumption)) (by decide) rfl ⟨rfl, rfl, rfl⟩ ⟨Nat.le_of_ble_eq_true rfl, rfl, rfl⟩ (Nat.le_of_ble_eq_true rfl) rfl ?_
        refine ex_beq rfl (fun h4 => ?_) (fun h4 => ?_)
        · refine ex_st 1 (pc' := 27) (ls' := [(0, xr 143), (1, xi x), (2, xi y), (3, xi w)]) (st' := [xi (-1)]) rfl ?_
          refine ex_reti rfl rfl ?_
          exact ⟨x_req (by first | rfl | omega), _, _, rfl, hR⟩
        · exfalso; (first | omega | (simp only [sp_bt] at *; contradiction))
    · exfalso; (first | omega | (simp only [sp_bt] at *; contradiction))
theorem x_natC {c n : Nat} {a : Int} (h : a = (c : Int)) (h2 : (n : Int) < a) : n < c := by omega
set_option maxRecDepth 8000 in
set_option maxHeartbeats 1000000 in
theorem op_of_20 {sc : List Int} {I : Nat → Nat → Int} {L : Nat → Nat → Int64} (hR : Rl I L) {n2 : Nat} (hv : (n2 : Int) < I 1 1) : x_PQ sc xN_G_of [xr 0, xi (↑n2), xi 20] xN_m_of [xr 143, xi (↑n2), xi 20] (xSH, I, L) := by
  obtain ⟨⟨hNs, hNo, hNa, hNb, hNr, hNd, hNg, hNe, hNp, hNk⟩, hI, hT, hX, hC, hH, hQ⟩ := id hR
  have hs := hNs
  unfold RNs at hs
  obtain ⟨c, kd, vv, vo, aw, ba, ro, egg, se, hWW, hM⟩ := hR.vw
  have hT2 := hT
  unfold RT at hT2
  obtain ⟨T, nn, cc, cd, we, en, qv, hXt⟩ := RT.tr hT (t := I 143 13) (by omega) (by omega)
  have hX2 := id hXt
  obtain ⟨u1, u2, u3, u4, u5, u6, u7, u8, u9, u10⟩ := hX2
  have hMT := u10 rfl
  obtain ⟨g, hg1, hg, hgs, hgp⟩ := hM.pres
  have hI17 : I 1 7 = I 143 13 := by omega
  have hs64 := sp_mask64 (sp_nz aw) (n := c) (by have := hWW.2.1; omega)
  have hsN : sp_mask (sp_nz aw) c = (((sp_mask (sp_nz aw) c).toNat : Nat) : Int) := by have := (sp_mask_bd (sp_nz aw) c).1; omega
  obtain ⟨hg_1, hg_2, hg_3, hg_4, hg_5, hg_6⟩ := id hNg
  obtain ⟨n, hn⟩ := Int.eq_ofNat_of_zero_le hg_2
  obtain ⟨ag, hag0⟩ : ∃ ag : Nat → Nat, ∀ k, ag k = (I 150 k).toNat := ⟨_, fun _ => rfl⟩
  have hag : ∀ k, k < n → I 150 k = (ag k : Int) ∧ ag k < 5 := fun k hk => by have h1 := hg_5 k (by omega); have h2 := hag0 k; omega
  have hvo : ∀ p, p < c → 0 ≤ vo p ∧ vo p ≤ 9 := fun p hp => (hM.2.2.2.2.2.2.2 p hp).2.2.2.2.2.1
  have hc1 := hWW.1
  have ho := hNo n2 (by omega)
  have haw := hNa.1 n2 (by omega)
  refine x_CQ.of (M := xM_G_of) rfl (Nat.le_of_ble_eq_true rfl) ?_
  refine ex_st 2 (pc' := 2) (ls' := [(0, xr 0), (1, xi (↑n2)), (2, xi 20)]) (st' := [xi (↑n2), xr 0]) rfl ?_
  refine ex_call (ct_G_isOfficial2 (c := I 1 1) (by first | omega | (constructor <;> omega) | assumption | ((repeat rw [x_up_far (by omega)]); first | rfl | omega | (constructor <;> omega))) (by (repeat rw [x_up_far (by omega)]); try rfl) (by first | omega | (constructor <;> omega) | assumption | ((repeat rw [x_up_far (by omega)]); first | rfl | omega | (constructor <;> omega)))) (by decide) rfl ⟨rfl, rfl, rfl⟩ ⟨Nat.le_of_ble_eq_true rfl, rfl, rfl⟩ (Nat.le_of_ble_eq_true rfl) rfl ?_
  refine ex_bne rfl (fun h0 => ?_) (fun h0 => ?_)
  · refine ex_st 4 (pc' := 20) (ls' := [(0, xr 0), (1, xi (↑n2)), (2, xi 20)]) (st' := [xi (↑n2), xr 2]) rfl ?_
    refine ex_aald (q := 11 + 3 * n2) (j := n2) rfl (by decide) (rfl : xSH[2]? = some _) (by decide) (by omega) (by omega) (by decide) (x_aa2 n2 (by omega)) (by omega) ?_
    refine ex_st 4 (pc' := 26) (ls' := [(3, xr (11 + 3 * n2)), (0, xr 0), (1, xi (↑n2)), (2, xi 20)]) (st' := [xi 10]) rfl ?_
    refine ex_call (ct_G_isThing2 (by omega)) (by decide) rfl ⟨rfl, rfl, rfl⟩ ⟨Nat.le_of_ble_eq_true rfl, rfl, rfl⟩ (Nat.le_of_ble_eq_true rfl) rfl ?_
    refine ex_beq rfl (fun h1 => ?_) (fun h1 => ?_)
    · refine ex_st 3 (pc' := 46) (ls' := [(3, xr (11 + 3 * n2)), (0, xr 0), (1, xi (↑n2)), (2, xi 20)]) (st' := [xi 0]) rfl ?_
      refine ex_call (ct_G_isThing2 (by omega)) (by decide) rfl ⟨rfl, rfl, rfl⟩ ⟨Nat.le_of_ble_eq_true rfl, rfl, rfl⟩ (Nat.le_of_ble_eq_true rfl) rfl ?_
      refine ex_beq rfl (fun h2 => ?_) (fun h2 => ?_)
      · exfalso; omega
      · refine ex_st 3 (pc' := 57) (ls' := [(3, xr (11 + 3 * n2)), (0, xr 0), (1, xi (↑n2)), (2, xi 20)]) (st' := [xr 1, xr 0]) rfl ?_
        refine ex_callQ (ct_G_ballotOf (L := L) WS.mk1 hWW u2 u3 u4 u5 u6 u7 u8 hI17 u9 u1) (by decide) rfl ⟨rfl, rfl, rfl⟩ ⟨Nat.le_of_ble_eq_true rfl, rfl, rfl⟩ (Nat.le_of_ble_eq_true rfl) rfl (fun ra m2 hQ => ?_)
        obtain ⟨rfl, J, rfl, hJ, hBW, hP, hBM⟩ := hQ
        rw [hsN] at hP
        refine ex_st 2 (pc' := 64) (ls' := [(3, xr (11 + 3 * n2)), (0, xr 0), (1, xi (↑n2)), (2, xi 20)]) (st' := [xi (↑n2), xr 93]) rfl ?_
        refine ex_aald (q := 94 + n2) (j := n2) rfl (by decide) (rfl : xSH[93]? = some _) (by decide) (by omega) (by omega) (by decide) (x_aa93 n2 (by omega)) (by omega) ?_
        refine ex_st 3 (pc' := 69) (ls' := [(3, xr (11 + 3 * n2)), (0, xr 0), (1, xi (↑n2)), (2, xi 20)]) (st' := [xi 0, xr (94 + n2)]) rfl ?_
        refine ex_iald (j := 0) rfl (by omega) (x_sh94 n2 (by omega)) (by decide) (by decide) (by decide) ?_
        rw [(hBW.2.2.1 n2 0 (by omega) (by decide)).1]
        refine ex_reti rfl rfl ?_
        refine x_CQ.of (M := xM_m_of) rfl (Nat.le_of_ble_eq_true rfl) ?_
        refine ex_st 2 (pc' := 2) (ls' := [(0, xr 143), (1, xi (↑n2)), (2, xi 20)]) (st' := [xi (↑n2), xr 143]) rfl ?_
        refine ex_call (ct_m_isOfficial2 (c := I 143 0) (by constructor <;> omega) (hJ _ _ (by omega)) (by omega)) (by decide) rfl ⟨rfl, rfl, rfl⟩ ⟨Nat.le_of_ble_eq_true rfl, rfl, rfl⟩ (Nat.le_of_ble_eq_true rfl) rfl ?_
        refine ex_bne rfl (fun h3 => ?_) (fun h3 => ?_)
        · refine ex_st 4 (pc' := 18) (ls' := [(0, xr 143), (1, xi (↑n2)), (2, xi 20)]) (st' := [xi 14, xi 10, xi 20, xr 143]) rfl ?_
          refine ex_call (ct_m_in (by first | omega | (constructor <;> omega) | assumption) (by first | omega | (constructor <;> omega) | assumption) (by first | omega | (constructor <;> omega) | assumption)) (by decide) rfl ⟨rfl, rfl, rfl⟩ ⟨Nat.le_of_ble_eq_true rfl, rfl, rfl⟩ (Nat.le_of_ble_eq_true rfl) rfl ?_
          refine ex_beq rfl (fun h4 => ?_) (fun h4 => ?_)
          · refine ex_st 4 (pc' := 44) (ls' := [(0, xr 143), (1, xi (↑n2)), (2, xi 20)]) (st' := [xi 24, xi 20, xi 20, xr 143]) rfl ?_
            refine ex_call (ct_m_in (by first | omega | (constructor <;> omega) | assumption) (by first | omega | (constructor <;> omega) | assumption) (by first | omega | (constructor <;> omega) | assumption)) (by decide) rfl ⟨rfl, rfl, rfl⟩ ⟨Nat.le_of_ble_eq_true rfl, rfl, rfl⟩ (Nat.le_of_ble_eq_true rfl) rfl ?_
            refine ex_beq rfl (fun h5 => ?_) (fun h5 => ?_)
            · exfalso; omega
            · refine ex_st 5 (pc' := 56) (ls' := [(0, xr 143), (1, xi (↑n2)), (2, xi 20)]) (st' := [xi 0, xi (↑n2), xr 143]) rfl ?_
              have hMx := hM.fr2 (I' := J) (fun k j a b => hJ k j (by omega))
              have hTx := hMT.fr2 (I' := J) (fun k j a b => hJ k j (by omega))
              have hgx : J 143 1 = (g : Int) := by rw [hJ _ _ (by omega)]; exact hg1
              have hnx : J 143 2 = (n : Int) := by rw [hJ _ _ (by omega)]; exact hn
              have hagx : ∀ k, k < n → J 150 k = (ag k : Int) ∧ ag k < 5 := fun k hk => by rw [hJ _ _ (by omega)]; exact hag k hk
              have hXI : ∀ k j, ¬ (92 ≤ k ∧ k ≤ 103) → J k j = I k j := fun k j hk => hJ k j (by omega)
              refine ex_callQ (ct_m_likes (L := L) hMx hTx (p := n2) (x := 0) (by omega) (by decide) (fun _ _ _ => rfl)) (by decide) rfl ⟨rfl, rfl, rfl⟩ ⟨Nat.le_of_ble_eq_true rfl, rfl, rfl⟩ (Nat.le_of_ble_eq_true rfl) rfl (fun ra m2 hQ => ?_)
              obtain ⟨rfl, K, rfl, hK⟩ := hQ
              have hKI : ∀ k j, ¬ (92 ≤ k ∧ k ≤ 103) → ¬ x_ms k j → K k j = I k j := fun k j h1 h2 => by rw [hK _ _ (by unfold x_ms at h2; omega), hXI _ _ h1]
              refine ex_reti rfl rfl ?_
              exact ⟨x_req (by first | rfl | omega), _, _, rfl, hR.fr (fun k j hk => hKI k j (by unfold x_scr at hk; omega) (by unfold x_scr at hk; unfold x_ms; omega)) (fun _ _ => rfl)⟩
          · exfalso; omega
        · exfalso; omega
    · exfalso; omega
  · exfalso; omega
theorem op_of_10 {sc : List Int} {I : Nat → Nat → Int} {L : Nat → Nat → Int64} (hR : Rl I L) {n2 : Nat} (hv : (n2 : Int) < I 1 1) : x_PQ sc xN_G_of [xr 0, xi (↑n2), xi 10] xN_m_of [xr 143, xi (↑n2), xi 10] (xSH, I, L) := by
  obtain ⟨⟨hNs, hNo, hNa, hNb, hNr, hNd, hNg, hNe, hNp, hNk⟩, hI, hT, hX, hC, hH, hQ⟩ := id hR
  have hs := hNs
  unfold RNs at hs
  have hb := hNb n2 0 (by omega) (by decide)
  refine x_CQ.of (M := xM_G_of) rfl (Nat.le_of_ble_eq_true rfl) ?_
  refine ex_st 2 (pc' := 2) (ls' := [(0, xr 0), (1, xi (↑n2)), (2, xi 10)]) (st' := [xi (↑n2), xr 0]) rfl ?_
  refine ex_call (ct_G_isOfficial2 (c := I 1 1) (by first | omega | (constructor <;> omega) | assumption | ((repeat rw [x_up_far (by omega)]); first | rfl | omega | (constructor <;> omega))) (by (repeat rw [x_up_far (by omega)]); try rfl) (by first | omega | (constructor <;> omega) | assumption | ((repeat rw [x_up_far (by omega)]); first | rfl | omega | (constructor <;> omega)))) (by decide) rfl ⟨rfl, rfl, rfl⟩ ⟨Nat.le_of_ble_eq_true rfl, rfl, rfl⟩ (Nat.le_of_ble_eq_true rfl) rfl ?_
  refine ex_bne rfl (fun h0 => ?_) (fun h0 => ?_)
  · refine ex_st 4 (pc' := 20) (ls' := [(0, xr 0), (1, xi (↑n2)), (2, xi 10)]) (st' := [xi (↑n2), xr 2]) rfl ?_
    refine ex_aald (q := 11 + 3 * n2) (j := n2) rfl (by decide) (rfl : xSH[2]? = some _) (by decide) (by omega) (by omega) (by decide) (x_aa2 n2 (by omega)) (by omega) ?_
    refine ex_st 4 (pc' := 26) (ls' := [(3, xr (11 + 3 * n2)), (0, xr 0), (1, xi (↑n2)), (2, xi 10)]) (st' := [xi 0]) rfl ?_
    refine ex_call (ct_G_isThing2 (by omega)) (by decide) rfl ⟨rfl, rfl, rfl⟩ ⟨Nat.le_of_ble_eq_true rfl, rfl, rfl⟩ (Nat.le_of_ble_eq_true rfl) rfl ?_
    refine ex_beq rfl (fun h1 => ?_) (fun h1 => ?_)
    · exfalso; omega
    · refine ex_st 1 (pc' := 33) (ls' := [(3, xr (11 + 3 * n2)), (0, xr 0), (1, xi (↑n2)), (2, xi 10)]) (st' := [xr (11 + 3 * n2)]) rfl ?_
      refine ex_gfr rfl (by omega) (x_so1 n2 (by omega)).1 (by decide) (by decide) rfl ?_
      refine ex_st 3 (pc' := 40) (ls' := [(3, xr (11 + 3 * n2)), (0, xr 0), (1, xi (↑n2)), (2, xi 10)]) (st' := [xi 0, xr (11 + 3 * n2 + 1)]) rfl ?_
      refine ex_iald (j := 0) rfl (by omega) (x_so1 n2 (by omega)).2.1 (by decide) (by decide) (by decide) ?_
      refine ex_reti rfl rfl ?_
      refine x_CQ.of (M := xM_m_of) rfl (Nat.le_of_ble_eq_true rfl) ?_
      refine ex_st 2 (pc' := 2) (ls' := [(0, xr 143), (1, xi (↑n2)), (2, xi 10)]) (st' := [xi (↑n2), xr 143]) rfl ?_
      refine ex_call (ct_m_isOfficial2 (c := I 143 0) (by first | omega | (constructor <;> omega) | assumption | ((repeat rw [x_up_far (by omega)]); first | rfl | omega | (constructor <;> omega))) (by (repeat rw [x_up_far (by omega)]); try rfl) (by first | omega | (constructor <;> omega) | assumption | ((repeat rw [x_up_far (by omega)]); first | rfl | omega | (constructor <;> omega)))) (by decide) rfl ⟨rfl, rfl, rfl⟩ ⟨Nat.le_of_ble_eq_true rfl, rfl, rfl⟩ (Nat.le_of_ble_eq_true rfl) rfl ?_
      refine ex_bne rfl (fun h2 => ?_) (fun h2 => ?_)
      · refine ex_st 4 (pc' := 18) (ls' := [(0, xr 143), (1, xi (↑n2)), (2, xi 10)]) (st' := [xi 14, xi 10, xi 10, xr 143]) rfl ?_
        refine ex_call (ct_m_in (by first | omega | (constructor <;> omega) | assumption) (by first | omega | (constructor <;> omega) | assumption) (by first | omega | (constructor <;> omega) | assumption)) (by decide) rfl ⟨rfl, rfl, rfl⟩ ⟨Nat.le_of_ble_eq_true rfl, rfl, rfl⟩ (Nat.le_of_ble_eq_true rfl) rfl ?_
        refine ex_beq rfl (fun h3 => ?_) (fun h3 => ?_)
        · exfalso; omega
        · refine ex_st 9 (pc' := 36) (ls' := [(0, xr 143), (1, xi (↑n2)), (2, xi 10)]) (st' := [xi (((5 * (↑n2)) + 10) - 10), xr 147]) rfl ?_
          refine ex_iald (j := (((5 * (n2)) + 10) - 10)) rfl (by decide) (rfl : xSH[147]? = some _) (by omega) (by omega) (by decide) ?_
          refine ex_reti rfl rfl ?_
          exact ⟨x_req (by first | omega | (rw [show 5 * n2 + 10 - 10 = 5 * n2 + 0 from by omega]; omega)), _, _, rfl, hR⟩
      · exfalso; omega
  · exfalso; omega
set_option maxRecDepth 8000 in
set_option maxHeartbeats 1000000 in
theorem op_of_21 {sc : List Int} {I : Nat → Nat → Int} {L : Nat → Nat → Int64} (hR : Rl I L) {n2 : Nat} (hv : (n2 : Int) < I 1 1) : x_PQ sc xN_G_of [xr 0, xi (↑n2), xi 21] xN_m_of [xr 143, xi (↑n2), xi 21] (xSH, I, L) := by
  obtain ⟨⟨hNs, hNo, hNa, hNb, hNr, hNd, hNg, hNe, hNp, hNk⟩, hI, hT, hX, hC, hH, hQ⟩ := id hR
  have hs := hNs
  unfold RNs at hs
  obtain ⟨c, kd, vv, vo, aw, ba, ro, egg, se, hWW, hM⟩ := hR.vw
  have hT2 := hT
  unfold RT at hT2
  obtain ⟨T, nn, cc, cd, we, en, qv, hXt⟩ := RT.tr hT (t := I 143 13) (by omega) (by omega)
  have hX2 := id hXt
  obtain ⟨u1, u2, u3, u4, u5, u6, u7, u8, u9, u10⟩ := hX2
  have hMT := u10 rfl
  obtain ⟨g, hg1, hg, hgs, hgp⟩ := hM.pres
  have hI17 : I 1 7 = I 143 13 := by omega
  have hs64 := sp_mask64 (sp_nz aw) (n := c) (by have := hWW.2.1; omega)
  have hsN : sp_mask (sp_nz aw) c = (((sp_mask (sp_nz aw) c).toNat : Nat) : Int) := by have := (sp_mask_bd (sp_nz aw) c).1; omega
  obtain ⟨hg_1, hg_2, hg_3, hg_4, hg_5, hg_6⟩ := id hNg
  obtain ⟨n, hn⟩ := Int.eq_ofNat_of_zero_le hg_2
  obtain ⟨ag, hag0⟩ : ∃ ag : Nat → Nat, ∀ k, ag k = (I 150 k).toNat := ⟨_, fun _ => rfl⟩
  have hag : ∀ k, k < n → I 150 k = (ag k : Int) ∧ ag k < 5 := fun k hk => by have h1 := hg_5 k (by omega); have h2 := hag0 k; omega
  have hvo : ∀ p, p < c → 0 ≤ vo p ∧ vo p ≤ 9 := fun p hp => (hM.2.2.2.2.2.2.2 p hp).2.2.2.2.2.1
  have hc1 := hWW.1
  have ho := hNo n2 (by omega)
  have haw := hNa.1 n2 (by omega)
  refine x_CQ.of (M := xM_G_of) rfl (Nat.le_of_ble_eq_true rfl) ?_
  refine ex_st 2 (pc' := 2) (ls' := [(0, xr 0), (1, xi (↑n2)), (2, xi 21)]) (st' := [xi (↑n2), xr 0]) rfl ?_
  refine ex_call (ct_G_isOfficial2 (c := I 1 1) (by first | omega | (constructor <;> omega) | assumption | ((repeat rw [x_up_far (by omega)]); first | rfl | omega | (constructor <;> omega))) (by (repeat rw [x_up_far (by omega)]); try rfl) (by first | omega | (constructor <;> omega) | assumption | ((repeat rw [x_up_far (by omega)]); first | rfl | omega | (constructor <;> omega)))) (by decide) rfl ⟨rfl, rfl, rfl⟩ ⟨Nat.le_of_ble_eq_true rfl, rfl, rfl⟩ (Nat.le_of_ble_eq_true rfl) rfl ?_
  refine ex_bne rfl (fun h0 => ?_) (fun h0 => ?_)
  · refine ex_st 4 (pc' := 20) (ls' := [(0, xr 0), (1, xi (↑n2)), (2, xi 21)]) (st' := [xi (↑n2), xr 2]) rfl ?_
    refine ex_aald (q := 11 + 3 * n2) (j := n2) rfl (by decide) (rfl : xSH[2]? = some _) (by decide) (by omega) (by omega) (by decide) (x_aa2 n2 (by omega)) (by omega) ?_
    refine ex_st 4 (pc' := 26) (ls' := [(3, xr (11 + 3 * n2)), (0, xr 0), (1, xi (↑n2)), (2, xi 21)]) (st' := [xi 11]) rfl ?_
    refine ex_call (ct_G_isThing2 (by omega)) (by decide) rfl ⟨rfl, rfl, rfl⟩ ⟨Nat.le_of_ble_eq_true rfl, rfl, rfl⟩ (Nat.le_of_ble_eq_true rfl) rfl ?_
    refine ex_beq rfl (fun h1 => ?_) (fun h1 => ?_)
    · refine ex_st 3 (pc' := 46) (ls' := [(3, xr (11 + 3 * n2)), (0, xr 0), (1, xi (↑n2)), (2, xi 21)]) (st' := [xi 1]) rfl ?_
      refine ex_call (ct_G_isThing2 (by omega)) (by decide) rfl ⟨rfl, rfl, rfl⟩ ⟨Nat.le_of_ble_eq_true rfl, rfl, rfl⟩ (Nat.le_of_ble_eq_true rfl) rfl ?_
      refine ex_beq rfl (fun h2 => ?_) (fun h2 => ?_)
      · exfalso; omega
      · refine ex_st 3 (pc' := 57) (ls' := [(3, xr (11 + 3 * n2)), (0, xr 0), (1, xi (↑n2)), (2, xi 21)]) (st' := [xr 1, xr 0]) rfl ?_
        refine ex_callQ (ct_G_ballotOf (L := L) WS.mk1 hWW u2 u3 u4 u5 u6 u7 u8 hI17 u9 u1) (by decide) rfl ⟨rfl, rfl, rfl⟩ ⟨Nat.le_of_ble_eq_true rfl, rfl, rfl⟩ (Nat.le_of_ble_eq_true rfl) rfl (fun ra m2 hQ => ?_)
        obtain ⟨rfl, J, rfl, hJ, hBW, hP, hBM⟩ := hQ
        rw [hsN] at hP
        refine ex_st 2 (pc' := 64) (ls' := [(3, xr (11 + 3 * n2)), (0, xr 0), (1, xi (↑n2)), (2, xi 21)]) (st' := [xi (↑n2), xr 93]) rfl ?_
        refine ex_aald (q := 94 + n2) (j := n2) rfl (by decide) (rfl : xSH[93]? = some _) (by decide) (by omega) (by omega) (by decide) (x_aa93 n2 (by omega)) (by omega) ?_
        refine ex_st 3 (pc' := 69) (ls' := [(3, xr (11 + 3 * n2)), (0, xr 0), (1, xi (↑n2)), (2, xi 21)]) (st' := [xi 1, xr (94 + n2)]) rfl ?_
        refine ex_iald (j := 1) rfl (by omega) (x_sh94 n2 (by omega)) (by decide) (by decide) (by decide) ?_
        rw [(hBW.2.2.1 n2 1 (by omega) (by decide)).1]
        refine ex_reti rfl rfl ?_
        refine x_CQ.of (M := xM_m_of) rfl (Nat.le_of_ble_eq_true rfl) ?_
        refine ex_st 2 (pc' := 2) (ls' := [(0, xr 143), (1, xi (↑n2)), (2, xi 21)]) (st' := [xi (↑n2), xr 143]) rfl ?_
        refine ex_call (ct_m_isOfficial2 (c := I 143 0) (by constructor <;> omega) (hJ _ _ (by omega)) (by omega)) (by decide) rfl ⟨rfl, rfl, rfl⟩ ⟨Nat.le_of_ble_eq_true rfl, rfl, rfl⟩ (Nat.le_of_ble_eq_true rfl) rfl ?_
        refine ex_bne rfl (fun h3 => ?_) (fun h3 => ?_)
        · refine ex_st 4 (pc' := 18) (ls' := [(0, xr 143), (1, xi (↑n2)), (2, xi 21)]) (st' := [xi 14, xi 10, xi 21, xr 143]) rfl ?_
          refine ex_call (ct_m_in (by first | omega | (constructor <;> omega) | assumption) (by first | omega | (constructor <;> omega) | assumption) (by first | omega | (constructor <;> omega) | assumption)) (by decide) rfl ⟨rfl, rfl, rfl⟩ ⟨Nat.le_of_ble_eq_true rfl, rfl, rfl⟩ (Nat.le_of_ble_eq_true rfl) rfl ?_
          refine ex_beq rfl (fun h4 => ?_) (fun h4 => ?_)
          · refine ex_st 4 (pc' := 44) (ls' := [(0, xr 143), (1, xi (↑n2)), (2, xi 21)]) (st' := [xi 24, xi 20, xi 21, xr 143]) rfl ?_
            refine ex_call (ct_m_in (by first | omega | (constructor <;> omega) | assumption) (by first | omega | (constructor <;> omega) | assumption) (by first | omega | (constructor <;> omega) | assumption)) (by decide) rfl ⟨rfl, rfl, rfl⟩ ⟨Nat.le_of_ble_eq_true rfl, rfl, rfl⟩ (Nat.le_of_ble_eq_true rfl) rfl ?_
            refine ex_beq rfl (fun h5 => ?_) (fun h5 => ?_)
            · exfalso; omega
            · refine ex_st 5 (pc' := 56) (ls' := [(0, xr 143), (1, xi (↑n2)), (2, xi 21)]) (st' := [xi 1, xi (↑n2), xr 143]) rfl ?_
              have hMx := hM.fr2 (I' := J) (fun k j a b => hJ k j (by omega))
              have hTx := hMT.fr2 (I' := J) (fun k j a b => hJ k j (by omega))
              have hgx : J 143 1 = (g : Int) := by rw [hJ _ _ (by omega)]; exact hg1
              have hnx : J 143 2 = (n : Int) := by rw [hJ _ _ (by omega)]; exact hn
              have hagx : ∀ k, k < n → J 150 k = (ag k : Int) ∧ ag k < 5 := fun k hk => by rw [hJ _ _ (by omega)]; exact hag k hk
              have hXI : ∀ k j, ¬ (92 ≤ k ∧ k ≤ 103) → J k j = I k j := fun k j hk => hJ k j (by omega)
              refine ex_callQ (ct_m_likes (L := L) hMx hTx (p := n2) (x := 1) (by omega) (by decide) (fun _ _ _ => rfl)) (by decide) rfl ⟨rfl, rfl, rfl⟩ ⟨Nat.le_of_ble_eq_true rfl, rfl, rfl⟩ (Nat.le_of_ble_eq_true rfl) rfl (fun ra m2 hQ => ?_)
              obtain ⟨rfl, K, rfl, hK⟩ := hQ
              have hKI : ∀ k j, ¬ (92 ≤ k ∧ k ≤ 103) → ¬ x_ms k j → K k j = I k j := fun k j h1 h2 => by rw [hK _ _ (by unfold x_ms at h2; omega), hXI _ _ h1]
              refine ex_reti rfl rfl ?_
              exact ⟨x_req (by first | rfl | omega), _, _, rfl, hR.fr (fun k j hk => hKI k j (by unfold x_scr at hk; omega) (by unfold x_scr at hk; unfold x_ms; omega)) (fun _ _ => rfl)⟩
          · exfalso; omega
        · exfalso; omega
    · exfalso; omega
  · exfalso; omega
theorem op_of_11 {sc : List Int} {I : Nat → Nat → Int} {L : Nat → Nat → Int64} (hR : Rl I L) {n2 : Nat} (hv : (n2 : Int) < I 1 1) : x_PQ sc xN_G_of [xr 0, xi (↑n2), xi 11] xN_m_of [xr 143, xi (↑n2), xi 11] (xSH, I, L) := by
  obtain ⟨⟨hNs, hNo, hNa, hNb, hNr, hNd, hNg, hNe, hNp, hNk⟩, hI, hT, hX, hC, hH, hQ⟩ := id hR
  have hs := hNs
  unfold RNs at hs
  have hb := hNb n2 1 (by omega) (by decide)
  refine x_CQ.of (M := xM_G_of) rfl (Nat.le_of_ble_eq_true rfl) ?_
  refine ex_st 2 (pc' := 2) (ls' := [(0, xr 0), (1, xi (↑n2)), (2, xi 11)]) (st' := [xi (↑n2), xr 0]) rfl ?_
  refine ex_call (ct_G_isOfficial2 (c := I 1 1) (by first | omega | (constructor <;> omega) | assumption | ((repeat rw [x_up_far (by omega)]); first | rfl | omega | (constructor <;> omega))) (by (repeat rw [x_up_far (by omega)]); try rfl) (by first | omega | (constructor <;> omega) | assumption | ((repeat rw [x_up_far (by omega)]); first | rfl | omega | (constructor <;> omega)))) (by decide) rfl ⟨rfl, rfl, rfl⟩ ⟨Nat.le_of_ble_eq_true rfl, rfl, rfl⟩ (Nat.le_of_ble_eq_true rfl) rfl ?_
  refine ex_bne rfl (fun h0 => ?_) (fun h0 => ?_)
  · refine ex_st 4 (pc' := 20) (ls' := [(0, xr 0), (1, xi (↑n2)), (2, xi 11)]) (st' := [xi (↑n2), xr 2]) rfl ?_
    refine ex_aald (q := 11 + 3 * n2) (j := n2) rfl (by decide) (rfl : xSH[2]? = some _) (by decide) (by omega) (by omega) (by decide) (x_aa2 n2 (by omega)) (by omega) ?_
    refine ex_st 4 (pc' := 26) (ls' := [(3, xr (11 + 3 * n2)), (0, xr 0), (1, xi (↑n2)), (2, xi 11)]) (st' := [xi 1]) rfl ?_
    refine ex_call (ct_G_isThing2 (by omega)) (by decide) rfl ⟨rfl, rfl, rfl⟩ ⟨Nat.le_of_ble_eq_true rfl, rfl, rfl⟩ (Nat.le_of_ble_eq_true rfl) rfl ?_
    refine ex_beq rfl (fun h1 => ?_) (fun h1 => ?_)
    · exfalso; omega
    · refine ex_st 1 (pc' := 33) (ls' := [(3, xr (11 + 3 * n2)), (0, xr 0), (1, xi (↑n2)), (2, xi 11)]) (st' := [xr (11 + 3 * n2)]) rfl ?_
      refine ex_gfr rfl (by omega) (x_so1 n2 (by omega)).1 (by decide) (by decide) rfl ?_
      refine ex_st 3 (pc' := 40) (ls' := [(3, xr (11 + 3 * n2)), (0, xr 0), (1, xi (↑n2)), (2, xi 11)]) (st' := [xi 1, xr (11 + 3 * n2 + 1)]) rfl ?_
      refine ex_iald (j := 1) rfl (by omega) (x_so1 n2 (by omega)).2.1 (by decide) (by decide) (by decide) ?_
      refine ex_reti rfl rfl ?_
      refine x_CQ.of (M := xM_m_of) rfl (Nat.le_of_ble_eq_true rfl) ?_
      refine ex_st 2 (pc' := 2) (ls' := [(0, xr 143), (1, xi (↑n2)), (2, xi 11)]) (st' := [xi (↑n2), xr 143]) rfl ?_
      refine ex_call (ct_m_isOfficial2 (c := I 143 0) (by first | omega | (constructor <;> omega) | assumption | ((repeat rw [x_up_far (by omega)]); first | rfl | omega | (constructor <;> omega))) (by (repeat rw [x_up_far (by omega)]); try rfl) (by first | omega | (constructor <;> omega) | assumption | ((repeat rw [x_up_far (by omega)]); first | rfl | omega | (constructor <;> omega)))) (by decide) rfl ⟨rfl, rfl, rfl⟩ ⟨Nat.le_of_ble_eq_true rfl, rfl, rfl⟩ (Nat.le_of_ble_eq_true rfl) rfl ?_
      refine ex_bne rfl (fun h2 => ?_) (fun h2 => ?_)
      · refine ex_st 4 (pc' := 18) (ls' := [(0, xr 143), (1, xi (↑n2)), (2, xi 11)]) (st' := [xi 14, xi 10, xi 11, xr 143]) rfl ?_
        refine ex_call (ct_m_in (by first | omega | (constructor <;> omega) | assumption) (by first | omega | (constructor <;> omega) | assumption) (by first | omega | (constructor <;> omega) | assumption)) (by decide) rfl ⟨rfl, rfl, rfl⟩ ⟨Nat.le_of_ble_eq_true rfl, rfl, rfl⟩ (Nat.le_of_ble_eq_true rfl) rfl ?_
        refine ex_beq rfl (fun h3 => ?_) (fun h3 => ?_)
        · exfalso; omega
        · refine ex_st 9 (pc' := 36) (ls' := [(0, xr 143), (1, xi (↑n2)), (2, xi 11)]) (st' := [xi (((5 * (↑n2)) + 11) - 10), xr 147]) rfl ?_
          refine ex_iald (j := (((5 * (n2)) + 11) - 10)) rfl (by decide) (rfl : xSH[147]? = some _) (by omega) (by omega) (by decide) ?_
          refine ex_reti rfl rfl ?_
          exact ⟨x_req (by first | omega | (rw [show 5 * n2 + 11 - 10 = 5 * n2 + 1 from by omega]; omega)), _, _, rfl, hR⟩
      · exfalso; omega
  · exfalso; omega
set_option maxRecDepth 8000 in
set_option maxHeartbeats 1000000 in
theorem op_of_22 {sc : List Int} {I : Nat → Nat → Int} {L : Nat → Nat → Int64} (hR : Rl I L) {n2 : Nat} (hv : (n2 : Int) < I 1 1) : x_PQ sc xN_G_of [xr 0, xi (↑n2), xi 22] xN_m_of [xr 143, xi (↑n2), xi 22] (xSH, I, L) := by
  obtain ⟨⟨hNs, hNo, hNa, hNb, hNr, hNd, hNg, hNe, hNp, hNk⟩, hI, hT, hX, hC, hH, hQ⟩ := id hR
  have hs := hNs
  unfold RNs at hs
  obtain ⟨c, kd, vv, vo, aw, ba, ro, egg, se, hWW, hM⟩ := hR.vw
  have hT2 := hT
  unfold RT at hT2
  obtain ⟨T, nn, cc, cd, we, en, qv, hXt⟩ := RT.tr hT (t := I 143 13) (by omega) (by omega)
  have hX2 := id hXt
  obtain ⟨u1, u2, u3, u4, u5, u6, u7, u8, u9, u10⟩ := hX2
  have hMT := u10 rfl
  obtain ⟨g, hg1, hg, hgs, hgp⟩ := hM.pres
  have hI17 : I 1 7 = I 143 13 := by omega
  have hs64 := sp_mask64 (sp_nz aw) (n := c) (by have := hWW.2.1; omega)
  have hsN : sp_mask (sp_nz aw) c = (((sp_mask (sp_nz aw) c).toNat : Nat) : Int) := by have := (sp_mask_bd (sp_nz aw) c).1; omega
  obtain ⟨hg_1, hg_2, hg_3, hg_4, hg_5, hg_6⟩ := id hNg
  obtain ⟨n, hn⟩ := Int.eq_ofNat_of_zero_le hg_2
  obtain ⟨ag, hag0⟩ : ∃ ag : Nat → Nat, ∀ k, ag k = (I 150 k).toNat := ⟨_, fun _ => rfl⟩
  have hag : ∀ k, k < n → I 150 k = (ag k : Int) ∧ ag k < 5 := fun k hk => by have h1 := hg_5 k (by omega); have h2 := hag0 k; omega
  have hvo : ∀ p, p < c → 0 ≤ vo p ∧ vo p ≤ 9 := fun p hp => (hM.2.2.2.2.2.2.2 p hp).2.2.2.2.2.1
  have hc1 := hWW.1
  have ho := hNo n2 (by omega)
  have haw := hNa.1 n2 (by omega)
  refine x_CQ.of (M := xM_G_of) rfl (Nat.le_of_ble_eq_true rfl) ?_
  refine ex_st 2 (pc' := 2) (ls' := [(0, xr 0), (1, xi (↑n2)), (2, xi 22)]) (st' := [xi (↑n2), xr 0]) rfl ?_
  refine ex_call (ct_G_isOfficial2 (c := I 1 1) (by first | omega | (constructor <;> omega) | assumption | ((repeat rw [x_up_far (by omega)]); first | rfl | omega | (constructor <;> omega))) (by (repeat rw [x_up_far (by omega)]); try rfl) (by first | omega | (constructor <;> omega) | assumption | ((repeat rw [x_up_far (by omega)]); first | rfl | omega | (constructor <;> omega)))) (by decide) rfl ⟨rfl, rfl, rfl⟩ ⟨Nat.le_of_ble_eq_true rfl, rfl, rfl⟩ (Nat.le_of_ble_eq_true rfl) rfl ?_
  refine ex_bne rfl (fun h0 => ?_) (fun h0 => ?_)
  · refine ex_st 4 (pc' := 20) (ls' := [(0, xr 0), (1, xi (↑n2)), (2, xi 22)]) (st' := [xi (↑n2), xr 2]) rfl ?_
    refine ex_aald (q := 11 + 3 * n2) (j := n2) rfl (by decide) (rfl : xSH[2]? = some _) (by decide) (by omega) (by omega) (by decide) (x_aa2 n2 (by omega)) (by omega) ?_
    refine ex_st 4 (pc' := 26) (ls' := [(3, xr (11 + 3 * n2)), (0, xr 0), (1, xi (↑n2)), (2, xi 22)]) (st' := [xi 12]) rfl ?_
    refine ex_call (ct_G_isThing2 (by omega)) (by decide) rfl ⟨rfl, rfl, rfl⟩ ⟨Nat.le_of_ble_eq_true rfl, rfl, rfl⟩ (Nat.le_of_ble_eq_true rfl) rfl ?_
    refine ex_beq rfl (fun h1 => ?_) (fun h1 => ?_)
    · refine ex_st 3 (pc' := 46) (ls' := [(3, xr (11 + 3 * n2)), (0, xr 0), (1, xi (↑n2)), (2, xi 22)]) (st' := [xi 2]) rfl ?_
      refine ex_call (ct_G_isThing2 (by omega)) (by decide) rfl ⟨rfl, rfl, rfl⟩ ⟨Nat.le_of_ble_eq_true rfl, rfl, rfl⟩ (Nat.le_of_ble_eq_true rfl) rfl ?_
      refine ex_beq rfl (fun h2 => ?_) (fun h2 => ?_)
      · exfalso; omega
      · refine ex_st 3 (pc' := 57) (ls' := [(3, xr (11 + 3 * n2)), (0, xr 0), (1, xi (↑n2)), (2, xi 22)]) (st' := [xr 1, xr 0]) rfl ?_
        refine ex_callQ (ct_G_ballotOf (L := L) WS.mk1 hWW u2 u3 u4 u5 u6 u7 u8 hI17 u9 u1) (by decide) rfl ⟨rfl, rfl, rfl⟩ ⟨Nat.le_of_ble_eq_true rfl, rfl, rfl⟩ (Nat.le_of_ble_eq_true rfl) rfl (fun ra m2 hQ => ?_)
        obtain ⟨rfl, J, rfl, hJ, hBW, hP, hBM⟩ := hQ
        rw [hsN] at hP
        refine ex_st 2 (pc' := 64) (ls' := [(3, xr (11 + 3 * n2)), (0, xr 0), (1, xi (↑n2)), (2, xi 22)]) (st' := [xi (↑n2), xr 93]) rfl ?_
        refine ex_aald (q := 94 + n2) (j := n2) rfl (by decide) (rfl : xSH[93]? = some _) (by decide) (by omega) (by omega) (by decide) (x_aa93 n2 (by omega)) (by omega) ?_
        refine ex_st 3 (pc' := 69) (ls' := [(3, xr (11 + 3 * n2)), (0, xr 0), (1, xi (↑n2)), (2, xi 22)]) (st' := [xi 2, xr (94 + n2)]) rfl ?_
        refine ex_iald (j := 2) rfl (by omega) (x_sh94 n2 (by omega)) (by decide) (by decide) (by decide) ?_
        rw [(hBW.2.2.1 n2 2 (by omega) (by decide)).1]
        refine ex_reti rfl rfl ?_
        refine x_CQ.of (M := xM_m_of) rfl (Nat.le_of_ble_eq_true rfl) ?_
        refine ex_st 2 (pc' := 2) (ls' := [(0, xr 143), (1, xi (↑n2)), (2, xi 22)]) (st' := [xi (↑n2), xr 143]) rfl ?_
        refine ex_call (ct_m_isOfficial2 (c := I 143 0) (by constructor <;> omega) (hJ _ _ (by omega)) (by omega)) (by decide) rfl ⟨rfl, rfl, rfl⟩ ⟨Nat.le_of_ble_eq_true rfl, rfl, rfl⟩ (Nat.le_of_ble_eq_true rfl) rfl ?_
        refine ex_bne rfl (fun h3 => ?_) (fun h3 => ?_)
        · refine ex_st 4 (pc' := 18) (ls' := [(0, xr 143), (1, xi (↑n2)), (2, xi 22)]) (st' := [xi 14, xi 10, xi 22, xr 143]) rfl ?_
          refine ex_call (ct_m_in (by first | omega | (constructor <;> omega) | assumption) (by first | omega | (constructor <;> omega) | assumption) (by first | omega | (constructor <;> omega) | assumption)) (by decide) rfl ⟨rfl, rfl, rfl⟩ ⟨Nat.le_of_ble_eq_true rfl, rfl, rfl⟩ (Nat.le_of_ble_eq_true rfl) rfl ?_
          refine ex_beq rfl (fun h4 => ?_) (fun h4 => ?_)
          · refine ex_st 4 (pc' := 44) (ls' := [(0, xr 143), (1, xi (↑n2)), (2, xi 22)]) (st' := [xi 24, xi 20, xi 22, xr 143]) rfl ?_
            refine ex_call (ct_m_in (by first | omega | (constructor <;> omega) | assumption) (by first | omega | (constructor <;> omega) | assumption) (by first | omega | (constructor <;> omega) | assumption)) (by decide) rfl ⟨rfl, rfl, rfl⟩ ⟨Nat.le_of_ble_eq_true rfl, rfl, rfl⟩ (Nat.le_of_ble_eq_true rfl) rfl ?_
            refine ex_beq rfl (fun h5 => ?_) (fun h5 => ?_)
            · exfalso; omega
            · refine ex_st 5 (pc' := 56) (ls' := [(0, xr 143), (1, xi (↑n2)), (2, xi 22)]) (st' := [xi 2, xi (↑n2), xr 143]) rfl ?_
              have hMx := hM.fr2 (I' := J) (fun k j a b => hJ k j (by omega))
              have hTx := hMT.fr2 (I' := J) (fun k j a b => hJ k j (by omega))
              have hgx : J 143 1 = (g : Int) := by rw [hJ _ _ (by omega)]; exact hg1
              have hnx : J 143 2 = (n : Int) := by rw [hJ _ _ (by omega)]; exact hn
              have hagx : ∀ k, k < n → J 150 k = (ag k : Int) ∧ ag k < 5 := fun k hk => by rw [hJ _ _ (by omega)]; exact hag k hk
              have hXI : ∀ k j, ¬ (92 ≤ k ∧ k ≤ 103) → J k j = I k j := fun k j hk => hJ k j (by omega)
              refine ex_callQ (ct_m_likes (L := L) hMx hTx (p := n2) (x := 2) (by omega) (by decide) (fun _ _ _ => rfl)) (by decide) rfl ⟨rfl, rfl, rfl⟩ ⟨Nat.le_of_ble_eq_true rfl, rfl, rfl⟩ (Nat.le_of_ble_eq_true rfl) rfl (fun ra m2 hQ => ?_)
              obtain ⟨rfl, K, rfl, hK⟩ := hQ
              have hKI : ∀ k j, ¬ (92 ≤ k ∧ k ≤ 103) → ¬ x_ms k j → K k j = I k j := fun k j h1 h2 => by rw [hK _ _ (by unfold x_ms at h2; omega), hXI _ _ h1]
              refine ex_reti rfl rfl ?_
              exact ⟨x_req (by first | rfl | omega), _, _, rfl, hR.fr (fun k j hk => hKI k j (by unfold x_scr at hk; omega) (by unfold x_scr at hk; unfold x_ms; omega)) (fun _ _ => rfl)⟩
          · exfalso; omega
        · exfalso; omega
    · exfalso; omega
  · exfalso; omega
theorem op_of_12 {sc : List Int} {I : Nat → Nat → Int} {L : Nat → Nat → Int64} (hR : Rl I L) {n2 : Nat} (hv : (n2 : Int) < I 1 1) : x_PQ sc xN_G_of [xr 0, xi (↑n2), xi 12] xN_m_of [xr 143, xi (↑n2), xi 12] (xSH, I, L) := by
  obtain ⟨⟨hNs, hNo, hNa, hNb, hNr, hNd, hNg, hNe, hNp, hNk⟩, hI, hT, hX, hC, hH, hQ⟩ := id hR
  have hs := hNs
  unfold RNs at hs
  have hb := hNb n2 2 (by omega) (by decide)
  refine x_CQ.of (M := xM_G_of) rfl (Nat.le_of_ble_eq_true rfl) ?_
  refine ex_st 2 (pc' := 2) (ls' := [(0, xr 0), (1, xi (↑n2)), (2, xi 12)]) (st' := [xi (↑n2), xr 0]) rfl ?_
  refine ex_call (ct_G_isOfficial2 (c := I 1 1) (by first | omega | (constructor <;> omega) | assumption | ((repeat rw [x_up_far (by omega)]); first | rfl | omega | (constructor <;> omega))) (by (repeat rw [x_up_far (by omega)]); try rfl) (by first | omega | (constructor <;> omega) | assumption | ((repeat rw [x_up_far (by omega)]); first | rfl | omega | (constructor <;> omega)))) (by decide) rfl ⟨rfl, rfl, rfl⟩ ⟨Nat.le_of_ble_eq_true rfl, rfl, rfl⟩ (Nat.le_of_ble_eq_true rfl) rfl ?_
  refine ex_bne rfl (fun h0 => ?_) (fun h0 => ?_)
  · refine ex_st 4 (pc' := 20) (ls' := [(0, xr 0), (1, xi (↑n2)), (2, xi 12)]) (st' := [xi (↑n2), xr 2]) rfl ?_
    refine ex_aald (q := 11 + 3 * n2) (j := n2) rfl (by decide) (rfl : xSH[2]? = some _) (by decide) (by omega) (by omega) (by decide) (x_aa2 n2 (by omega)) (by omega) ?_
    refine ex_st 4 (pc' := 26) (ls' := [(3, xr (11 + 3 * n2)), (0, xr 0), (1, xi (↑n2)), (2, xi 12)]) (st' := [xi 2]) rfl ?_
    refine ex_call (ct_G_isThing2 (by omega)) (by decide) rfl ⟨rfl, rfl, rfl⟩ ⟨Nat.le_of_ble_eq_true rfl, rfl, rfl⟩ (Nat.le_of_ble_eq_true rfl) rfl ?_
    refine ex_beq rfl (fun h1 => ?_) (fun h1 => ?_)
    · exfalso; omega
    · refine ex_st 1 (pc' := 33) (ls' := [(3, xr (11 + 3 * n2)), (0, xr 0), (1, xi (↑n2)), (2, xi 12)]) (st' := [xr (11 + 3 * n2)]) rfl ?_
      refine ex_gfr rfl (by omega) (x_so1 n2 (by omega)).1 (by decide) (by decide) rfl ?_
      refine ex_st 3 (pc' := 40) (ls' := [(3, xr (11 + 3 * n2)), (0, xr 0), (1, xi (↑n2)), (2, xi 12)]) (st' := [xi 2, xr (11 + 3 * n2 + 1)]) rfl ?_
      refine ex_iald (j := 2) rfl (by omega) (x_so1 n2 (by omega)).2.1 (by decide) (by decide) (by decide) ?_
      refine ex_reti rfl rfl ?_
      refine x_CQ.of (M := xM_m_of) rfl (Nat.le_of_ble_eq_true rfl) ?_
      refine ex_st 2 (pc' := 2) (ls' := [(0, xr 143), (1, xi (↑n2)), (2, xi 12)]) (st' := [xi (↑n2), xr 143]) rfl ?_
      refine ex_call (ct_m_isOfficial2 (c := I 143 0) (by first | omega | (constructor <;> omega) | assumption | ((repeat rw [x_up_far (by omega)]); first | rfl | omega | (constructor <;> omega))) (by (repeat rw [x_up_far (by omega)]); try rfl) (by first | omega | (constructor <;> omega) | assumption | ((repeat rw [x_up_far (by omega)]); first | rfl | omega | (constructor <;> omega)))) (by decide) rfl ⟨rfl, rfl, rfl⟩ ⟨Nat.le_of_ble_eq_true rfl, rfl, rfl⟩ (Nat.le_of_ble_eq_true rfl) rfl ?_
      refine ex_bne rfl (fun h2 => ?_) (fun h2 => ?_)
      · refine ex_st 4 (pc' := 18) (ls' := [(0, xr 143), (1, xi (↑n2)), (2, xi 12)]) (st' := [xi 14, xi 10, xi 12, xr 143]) rfl ?_
        refine ex_call (ct_m_in (by first | omega | (constructor <;> omega) | assumption) (by first | omega | (constructor <;> omega) | assumption) (by first | omega | (constructor <;> omega) | assumption)) (by decide) rfl ⟨rfl, rfl, rfl⟩ ⟨Nat.le_of_ble_eq_true rfl, rfl, rfl⟩ (Nat.le_of_ble_eq_true rfl) rfl ?_
        refine ex_beq rfl (fun h3 => ?_) (fun h3 => ?_)
        · exfalso; omega
        · refine ex_st 9 (pc' := 36) (ls' := [(0, xr 143), (1, xi (↑n2)), (2, xi 12)]) (st' := [xi (((5 * (↑n2)) + 12) - 10), xr 147]) rfl ?_
          refine ex_iald (j := (((5 * (n2)) + 12) - 10)) rfl (by decide) (rfl : xSH[147]? = some _) (by omega) (by omega) (by decide) ?_
          refine ex_reti rfl rfl ?_
          exact ⟨x_req (by first | omega | (rw [show 5 * n2 + 12 - 10 = 5 * n2 + 2 from by omega]; omega)), _, _, rfl, hR⟩
      · exfalso; omega
  · exfalso; omega
set_option maxRecDepth 8000 in
set_option maxHeartbeats 1000000 in
theorem op_of_23 {sc : List Int} {I : Nat → Nat → Int} {L : Nat → Nat → Int64} (hR : Rl I L) {n2 : Nat} (hv : (n2 : Int) < I 1 1) : x_PQ sc xN_G_of [xr 0, xi (↑n2), xi 23] xN_m_of [xr 143, xi (↑n2), xi 23] (xSH, I, L) := by
  obtain ⟨⟨hNs, hNo, hNa, hNb, hNr, hNd, hNg, hNe, hNp, hNk⟩, hI, hT, hX, hC, hH, hQ⟩ := id hR
  have hs := hNs
  unfold RNs at hs
  obtain ⟨c, kd, vv, vo, aw, ba, ro, egg, se, hWW, hM⟩ := hR.vw
  have hT2 := hT
  unfold RT at hT2
  obtain ⟨T, nn, cc, cd, we, en, qv, hXt⟩ := RT.tr hT (t := I 143 13) (by omega) (by omega)
  have hX2 := id hXt
  obtain ⟨u1, u2, u3, u4, u5, u6, u7, u8, u9, u10⟩ := hX2
  have hMT := u10 rfl
  obtain ⟨g, hg1, hg, hgs, hgp⟩ := hM.pres
  have hI17 : I 1 7 = I 143 13 := by omega
  have hs64 := sp_mask64 (sp_nz aw) (n := c) (by have := hWW.2.1; omega)
  have hsN : sp_mask (sp_nz aw) c = (((sp_mask (sp_nz aw) c).toNat : Nat) : Int) := by have := (sp_mask_bd (sp_nz aw) c).1; omega
  obtain ⟨hg_1, hg_2, hg_3, hg_4, hg_5, hg_6⟩ := id hNg
  obtain ⟨n, hn⟩ := Int.eq_ofNat_of_zero_le hg_2
  obtain ⟨ag, hag0⟩ : ∃ ag : Nat → Nat, ∀ k, ag k = (I 150 k).toNat := ⟨_, fun _ => rfl⟩
  have hag : ∀ k, k < n → I 150 k = (ag k : Int) ∧ ag k < 5 := fun k hk => by have h1 := hg_5 k (by omega); have h2 := hag0 k; omega
  have hvo : ∀ p, p < c → 0 ≤ vo p ∧ vo p ≤ 9 := fun p hp => (hM.2.2.2.2.2.2.2 p hp).2.2.2.2.2.1
  have hc1 := hWW.1
  have ho := hNo n2 (by omega)
  have haw := hNa.1 n2 (by omega)
  refine x_CQ.of (M := xM_G_of) rfl (Nat.le_of_ble_eq_true rfl) ?_
  refine ex_st 2 (pc' := 2) (ls' := [(0, xr 0), (1, xi (↑n2)), (2, xi 23)]) (st' := [xi (↑n2), xr 0]) rfl ?_
  refine ex_call (ct_G_isOfficial2 (c := I 1 1) (by first | omega | (constructor <;> omega) | assumption | ((repeat rw [x_up_far (by omega)]); first | rfl | omega | (constructor <;> omega))) (by (repeat rw [x_up_far (by omega)]); try rfl) (by first | omega | (constructor <;> omega) | assumption | ((repeat rw [x_up_far (by omega)]); first | rfl | omega | (constructor <;> omega)))) (by decide) rfl ⟨rfl, rfl, rfl⟩ ⟨Nat.le_of_ble_eq_true rfl, rfl, rfl⟩ (Nat.le_of_ble_eq_true rfl) rfl ?_
  refine ex_bne rfl (fun h0 => ?_) (fun h0 => ?_)
  · refine ex_st 4 (pc' := 20) (ls' := [(0, xr 0), (1, xi (↑n2)), (2, xi 23)]) (st' := [xi (↑n2), xr 2]) rfl ?_
    refine ex_aald (q := 11 + 3 * n2) (j := n2) rfl (by decide) (rfl : xSH[2]? = some _) (by decide) (by omega) (by omega) (by decide) (x_aa2 n2 (by omega)) (by omega) ?_
    refine ex_st 4 (pc' := 26) (ls' := [(3, xr (11 + 3 * n2)), (0, xr 0), (1, xi (↑n2)), (2, xi 23)]) (st' := [xi 13]) rfl ?_
    refine ex_call (ct_G_isThing2 (by omega)) (by decide) rfl ⟨rfl, rfl, rfl⟩ ⟨Nat.le_of_ble_eq_true rfl, rfl, rfl⟩ (Nat.le_of_ble_eq_true rfl) rfl ?_
    refine ex_beq rfl (fun h1 => ?_) (fun h1 => ?_)
    · refine ex_st 3 (pc' := 46) (ls' := [(3, xr (11 + 3 * n2)), (0, xr 0), (1, xi (↑n2)), (2, xi 23)]) (st' := [xi 3]) rfl ?_
      refine ex_call (ct_G_isThing2 (by omega)) (by decide) rfl ⟨rfl, rfl, rfl⟩ ⟨Nat.le_of_ble_eq_true rfl, rfl, rfl⟩ (Nat.le_of_ble_eq_true rfl) rfl ?_
      refine ex_beq rfl (fun h2 => ?_) (fun h2 => ?_)
      · exfalso; omega
      · refine ex_st 3 (pc' := 57) (ls' := [(3, xr (11 + 3 * n2)), (0, xr 0), (1, xi (↑n2)), (2, xi 23)]) (st' := [xr 1, xr 0]) rfl ?_
        refine ex_callQ (ct_G_ballotOf (L := L) WS.mk1 hWW u2 u3 u4 u5 u6 u7 u8 hI17 u9 u1) (by decide) rfl ⟨rfl, rfl, rfl⟩ ⟨Nat.le_of_ble_eq_true rfl, rfl, rfl⟩ (Nat.le_of_ble_eq_true rfl) rfl (fun ra m2 hQ => ?_)
        obtain ⟨rfl, J, rfl, hJ, hBW, hP, hBM⟩ := hQ
        rw [hsN] at hP
        refine ex_st 2 (pc' := 64) (ls' := [(3, xr (11 + 3 * n2)), (0, xr 0), (1, xi (↑n2)), (2, xi 23)]) (st' := [xi (↑n2), xr 93]) rfl ?_
        refine ex_aald (q := 94 + n2) (j := n2) rfl (by decide) (rfl : xSH[93]? = some _) (by decide) (by omega) (by omega) (by decide) (x_aa93 n2 (by omega)) (by omega) ?_
        refine ex_st 3 (pc' := 69) (ls' := [(3, xr (11 + 3 * n2)), (0, xr 0), (1, xi (↑n2)), (2, xi 23)]) (st' := [xi 3, xr (94 + n2)]) rfl ?_
        refine ex_iald (j := 3) rfl (by omega) (x_sh94 n2 (by omega)) (by decide) (by decide) (by decide) ?_
        rw [(hBW.2.2.1 n2 3 (by omega) (by decide)).1]
        refine ex_reti rfl rfl ?_
        refine x_CQ.of (M := xM_m_of) rfl (Nat.le_of_ble_eq_true rfl) ?_
        refine ex_st 2 (pc' := 2) (ls' := [(0, xr 143), (1, xi (↑n2)), (2, xi 23)]) (st' := [xi (↑n2), xr 143]) rfl ?_
        refine ex_call (ct_m_isOfficial2 (c := I 143 0) (by constructor <;> omega) (hJ _ _ (by omega)) (by omega)) (by decide) rfl ⟨rfl, rfl, rfl⟩ ⟨Nat.le_of_ble_eq_true rfl, rfl, rfl⟩ (Nat.le_of_ble_eq_true rfl) rfl ?_
        refine ex_bne rfl (fun h3 => ?_) (fun h3 => ?_)
        · refine ex_st 4 (pc' := 18) (ls' := [(0, xr 143), (1, xi (↑n2)), (2, xi 23)]) (st' := [xi 14, xi 10, xi 23, xr 143]) rfl ?_
          refine ex_call (ct_m_in (by first | omega | (constructor <;> omega) | assumption) (by first | omega | (constructor <;> omega) | assumption) (by first | omega | (constructor <;> omega) | assumption)) (by decide) rfl ⟨rfl, rfl, rfl⟩ ⟨Nat.le_of_ble_eq_true rfl, rfl, rfl⟩ (Nat.le_of_ble_eq_true rfl) rfl ?_
          refine ex_beq rfl (fun h4 => ?_) (fun h4 => ?_)
          · refine ex_st 4 (pc' := 44) (ls' := [(0, xr 143), (1, xi (↑n2)), (2, xi 23)]) (st' := [xi 24, xi 20, xi 23, xr 143]) rfl ?_
            refine ex_call (ct_m_in (by first | omega | (constructor <;> omega) | assumption) (by first | omega | (constructor <;> omega) | assumption) (by first | omega | (constructor <;> omega) | assumption)) (by decide) rfl ⟨rfl, rfl, rfl⟩ ⟨Nat.le_of_ble_eq_true rfl, rfl, rfl⟩ (Nat.le_of_ble_eq_true rfl) rfl ?_
            refine ex_beq rfl (fun h5 => ?_) (fun h5 => ?_)
            · exfalso; omega
            · refine ex_st 5 (pc' := 56) (ls' := [(0, xr 143), (1, xi (↑n2)), (2, xi 23)]) (st' := [xi 3, xi (↑n2), xr 143]) rfl ?_
              have hMx := hM.fr2 (I' := J) (fun k j a b => hJ k j (by omega))
              have hTx := hMT.fr2 (I' := J) (fun k j a b => hJ k j (by omega))
              have hgx : J 143 1 = (g : Int) := by rw [hJ _ _ (by omega)]; exact hg1
              have hnx : J 143 2 = (n : Int) := by rw [hJ _ _ (by omega)]; exact hn
              have hagx : ∀ k, k < n → J 150 k = (ag k : Int) ∧ ag k < 5 := fun k hk => by rw [hJ _ _ (by omega)]; exact hag k hk
              have hXI : ∀ k j, ¬ (92 ≤ k ∧ k ≤ 103) → J k j = I k j := fun k j hk => hJ k j (by omega)
              refine ex_callQ (ct_m_likes (L := L) hMx hTx (p := n2) (x := 3) (by omega) (by decide) (fun _ _ _ => rfl)) (by decide) rfl ⟨rfl, rfl, rfl⟩ ⟨Nat.le_of_ble_eq_true rfl, rfl, rfl⟩ (Nat.le_of_ble_eq_true rfl) rfl (fun ra m2 hQ => ?_)
              obtain ⟨rfl, K, rfl, hK⟩ := hQ
              have hKI : ∀ k j, ¬ (92 ≤ k ∧ k ≤ 103) → ¬ x_ms k j → K k j = I k j := fun k j h1 h2 => by rw [hK _ _ (by unfold x_ms at h2; omega), hXI _ _ h1]
              refine ex_reti rfl rfl ?_
              exact ⟨x_req (by first | rfl | omega), _, _, rfl, hR.fr (fun k j hk => hKI k j (by unfold x_scr at hk; omega) (by unfold x_scr at hk; unfold x_ms; omega)) (fun _ _ => rfl)⟩
          · exfalso; omega
        · exfalso; omega
    · exfalso; omega
  · exfalso; omega
theorem op_of_13 {sc : List Int} {I : Nat → Nat → Int} {L : Nat → Nat → Int64} (hR : Rl I L) {n2 : Nat} (hv : (n2 : Int) < I 1 1) : x_PQ sc xN_G_of [xr 0, xi (↑n2), xi 13] xN_m_of [xr 143, xi (↑n2), xi 13] (xSH, I, L) := by
  obtain ⟨⟨hNs, hNo, hNa, hNb, hNr, hNd, hNg, hNe, hNp, hNk⟩, hI, hT, hX, hC, hH, hQ⟩ := id hR
  have hs := hNs
  unfold RNs at hs
  have hb := hNb n2 3 (by omega) (by decide)
  refine x_CQ.of (M := xM_G_of) rfl (Nat.le_of_ble_eq_true rfl) ?_
  refine ex_st 2 (pc' := 2) (ls' := [(0, xr 0), (1, xi (↑n2)), (2, xi 13)]) (st' := [xi (↑n2), xr 0]) rfl ?_
  refine ex_call (ct_G_isOfficial2 (c := I 1 1) (by first | omega | (constructor <;> omega) | assumption | ((repeat rw [x_up_far (by omega)]); first | rfl | omega | (constructor <;> omega))) (by (repeat rw [x_up_far (by omega)]); try rfl) (by first | omega | (constructor <;> omega) | assumption | ((repeat rw [x_up_far (by omega)]); first | rfl | omega | (constructor <;> omega)))) (by decide) rfl ⟨rfl, rfl, rfl⟩ ⟨Nat.le_of_ble_eq_true rfl, rfl, rfl⟩ (Nat.le_of_ble_eq_true rfl) rfl ?_
  refine ex_bne rfl (fun h0 => ?_) (fun h0 => ?_)
  · refine ex_st 4 (pc' := 20) (ls' := [(0, xr 0), (1, xi (↑n2)), (2, xi 13)]) (st' := [xi (↑n2), xr 2]) rfl ?_
    refine ex_aald (q := 11 + 3 * n2) (j := n2) rfl (by decide) (rfl : xSH[2]? = some _) (by decide) (by omega) (by omega) (by decide) (x_aa2 n2 (by omega)) (by omega) ?_
    refine ex_st 4 (pc' := 26) (ls' := [(3, xr (11 + 3 * n2)), (0, xr 0), (1, xi (↑n2)), (2, xi 13)]) (st' := [xi 3]) rfl ?_
    refine ex_call (ct_G_isThing2 (by omega)) (by decide) rfl ⟨rfl, rfl, rfl⟩ ⟨Nat.le_of_ble_eq_true rfl, rfl, rfl⟩ (Nat.le_of_ble_eq_true rfl) rfl ?_
    refine ex_beq rfl (fun h1 => ?_) (fun h1 => ?_)
    · exfalso; omega
    · refine ex_st 1 (pc' := 33) (ls' := [(3, xr (11 + 3 * n2)), (0, xr 0), (1, xi (↑n2)), (2, xi 13)]) (st' := [xr (11 + 3 * n2)]) rfl ?_
      refine ex_gfr rfl (by omega) (x_so1 n2 (by omega)).1 (by decide) (by decide) rfl ?_
      refine ex_st 3 (pc' := 40) (ls' := [(3, xr (11 + 3 * n2)), (0, xr 0), (1, xi (↑n2)), (2, xi 13)]) (st' := [xi 3, xr (11 + 3 * n2 + 1)]) rfl ?_
      refine ex_iald (j := 3) rfl (by omega) (x_so1 n2 (by omega)).2.1 (by decide) (by decide) (by decide) ?_
      refine ex_reti rfl rfl ?_
      refine x_CQ.of (M := xM_m_of) rfl (Nat.le_of_ble_eq_true rfl) ?_
      refine ex_st 2 (pc' := 2) (ls' := [(0, xr 143), (1, xi (↑n2)), (2, xi 13)]) (st' := [xi (↑n2), xr 143]) rfl ?_
      refine ex_call (ct_m_isOfficial2 (c := I 143 0) (by first | omega | (constructor <;> omega) | assumption | ((repeat rw [x_up_far (by omega)]); first | rfl | omega | (constructor <;> omega))) (by (repeat rw [x_up_far (by omega)]); try rfl) (by first | omega | (constructor <;> omega) | assumption | ((repeat rw [x_up_far (by omega)]); first | rfl | omega | (constructor <;> omega)))) (by decide) rfl ⟨rfl, rfl, rfl⟩ ⟨Nat.le_of_ble_eq_true rfl, rfl, rfl⟩ (Nat.le_of_ble_eq_true rfl) rfl ?_
      refine ex_bne rfl (fun h2 => ?_) (fun h2 => ?_)
      · refine ex_st 4 (pc' := 18) (ls' := [(0, xr 143), (1, xi (↑n2)), (2, xi 13)]) (st' := [xi 14, xi 10, xi 13, xr 143]) rfl ?_
        refine ex_call (ct_m_in (by first | omega | (constructor <;> omega) | assumption) (by first | omega | (constructor <;> omega) | assumption) (by first | omega | (constructor <;> omega) | assumption)) (by decide) rfl ⟨rfl, rfl, rfl⟩ ⟨Nat.le_of_ble_eq_true rfl, rfl, rfl⟩ (Nat.le_of_ble_eq_true rfl) rfl ?_
        refine ex_beq rfl (fun h3 => ?_) (fun h3 => ?_)
        · exfalso; omega
        · refine ex_st 9 (pc' := 36) (ls' := [(0, xr 143), (1, xi (↑n2)), (2, xi 13)]) (st' := [xi (((5 * (↑n2)) + 13) - 10), xr 147]) rfl ?_
          refine ex_iald (j := (((5 * (n2)) + 13) - 10)) rfl (by decide) (rfl : xSH[147]? = some _) (by omega) (by omega) (by decide) ?_
          refine ex_reti rfl rfl ?_
          exact ⟨x_req (by first | omega | (rw [show 5 * n2 + 13 - 10 = 5 * n2 + 3 from by omega]; omega)), _, _, rfl, hR⟩
      · exfalso; omega
  · exfalso; omega
set_option maxRecDepth 8000 in
set_option maxHeartbeats 1000000 in
theorem op_of_24 {sc : List Int} {I : Nat → Nat → Int} {L : Nat → Nat → Int64} (hR : Rl I L) {n2 : Nat} (hv : (n2 : Int) < I 1 1) : x_PQ sc xN_G_of [xr 0, xi (↑n2), xi 24] xN_m_of [xr 143, xi (↑n2), xi 24] (xSH, I, L) := by
  obtain ⟨⟨hNs, hNo, hNa, hNb, hNr, hNd, hNg, hNe, hNp, hNk⟩, hI, hT, hX, hC, hH, hQ⟩ := id hR
  have hs := hNs
  unfold RNs at hs
  obtain ⟨c, kd, vv, vo, aw, ba, ro, egg, se, hWW, hM⟩ := hR.vw
  have hT2 := hT
  unfold RT at hT2
  obtain ⟨T, nn, cc, cd, we, en, qv, hXt⟩ := RT.tr hT (t := I 143 13) (by omega) (by omega)
  have hX2 := id hXt
  obtain ⟨u1, u2, u3, u4, u5, u6, u7, u8, u9, u10⟩ := hX2
  have hMT := u10 rfl
  obtain ⟨g, hg1, hg, hgs, hgp⟩ := hM.pres
  have hI17 : I 1 7 = I 143 13 := by omega
  have hs64 := sp_mask64 (sp_nz aw) (n := c) (by have := hWW.2.1; omega)
  have hsN : sp_mask (sp_nz aw) c = (((sp_mask (sp_nz aw) c).toNat : Nat) : Int) := by have := (sp_mask_bd (sp_nz aw) c).1; omega
  obtain ⟨hg_1, hg_2, hg_3, hg_4, hg_5, hg_6⟩ := id hNg
  obtain ⟨n, hn⟩ := Int.eq_ofNat_of_zero_le hg_2
  obtain ⟨ag, hag0⟩ : ∃ ag : Nat → Nat, ∀ k, ag k = (I 150 k).toNat := ⟨_, fun _ => rfl⟩
  have hag : ∀ k, k < n → I 150 k = (ag k : Int) ∧ ag k < 5 := fun k hk => by have h1 := hg_5 k (by omega); have h2 := hag0 k; omega
  have hvo : ∀ p, p < c → 0 ≤ vo p ∧ vo p ≤ 9 := fun p hp => (hM.2.2.2.2.2.2.2 p hp).2.2.2.2.2.1
  have hc1 := hWW.1
  have ho := hNo n2 (by omega)
  have haw := hNa.1 n2 (by omega)
  refine x_CQ.of (M := xM_G_of) rfl (Nat.le_of_ble_eq_true rfl) ?_
  refine ex_st 2 (pc' := 2) (ls' := [(0, xr 0), (1, xi (↑n2)), (2, xi 24)]) (st' := [xi (↑n2), xr 0]) rfl ?_
  refine ex_call (ct_G_isOfficial2 (c := I 1 1) (by first | omega | (constructor <;> omega) | assumption | ((repeat rw [x_up_far (by omega)]); first | rfl | omega | (constructor <;> omega))) (by (repeat rw [x_up_far (by omega)]); try rfl) (by first | omega | (constructor <;> omega) | assumption | ((repeat rw [x_up_far (by omega)]); first | rfl | omega | (constructor <;> omega)))) (by decide) rfl ⟨rfl, rfl, rfl⟩ ⟨Nat.le_of_ble_eq_true rfl, rfl, rfl⟩ (Nat.le_of_ble_eq_true rfl) rfl ?_
  refine ex_bne rfl (fun h0 => ?_) (fun h0 => ?_)
  · refine ex_st 4 (pc' := 20) (ls' := [(0, xr 0), (1, xi (↑n2)), (2, xi 24)]) (st' := [xi (↑n2), xr 2]) rfl ?_
    refine ex_aald (q := 11 + 3 * n2) (j := n2) rfl (by decide) (rfl : xSH[2]? = some _) (by decide) (by omega) (by omega) (by decide) (x_aa2 n2 (by omega)) (by omega) ?_
    refine ex_st 4 (pc' := 26) (ls' := [(3, xr (11 + 3 * n2)), (0, xr 0), (1, xi (↑n2)), (2, xi 24)]) (st' := [xi 14]) rfl ?_
    refine ex_call (ct_G_isThing2 (by omega)) (by decide) rfl ⟨rfl, rfl, rfl⟩ ⟨Nat.le_of_ble_eq_true rfl, rfl, rfl⟩ (Nat.le_of_ble_eq_true rfl) rfl ?_
    refine ex_beq rfl (fun h1 => ?_) (fun h1 => ?_)
    · refine ex_st 3 (pc' := 46) (ls' := [(3, xr (11 + 3 * n2)), (0, xr 0), (1, xi (↑n2)), (2, xi 24)]) (st' := [xi 4]) rfl ?_
      refine ex_call (ct_G_isThing2 (by omega)) (by decide) rfl ⟨rfl, rfl, rfl⟩ ⟨Nat.le_of_ble_eq_true rfl, rfl, rfl⟩ (Nat.le_of_ble_eq_true rfl) rfl ?_
      refine ex_beq rfl (fun h2 => ?_) (fun h2 => ?_)
      · exfalso; omega
      · refine ex_st 3 (pc' := 57) (ls' := [(3, xr (11 + 3 * n2)), (0, xr 0), (1, xi (↑n2)), (2, xi 24)]) (st' := [xr 1, xr 0]) rfl ?_
        refine ex_callQ (ct_G_ballotOf (L := L) WS.mk1 hWW u2 u3 u4 u5 u6 u7 u8 hI17 u9 u1) (by decide) rfl ⟨rfl, rfl, rfl⟩ ⟨Nat.le_of_ble_eq_true rfl, rfl, rfl⟩ (Nat.le_of_ble_eq_true rfl) rfl (fun ra m2 hQ => ?_)
        obtain ⟨rfl, J, rfl, hJ, hBW, hP, hBM⟩ := hQ
        rw [hsN] at hP
        refine ex_st 2 (pc' := 64) (ls' := [(3, xr (11 + 3 * n2)), (0, xr 0), (1, xi (↑n2)), (2, xi 24)]) (st' := [xi (↑n2), xr 93]) rfl ?_
        refine ex_aald (q := 94 + n2) (j := n2) rfl (by decide) (rfl : xSH[93]? = some _) (by decide) (by omega) (by omega) (by decide) (x_aa93 n2 (by omega)) (by omega) ?_
        refine ex_st 3 (pc' := 69) (ls' := [(3, xr (11 + 3 * n2)), (0, xr 0), (1, xi (↑n2)), (2, xi 24)]) (st' := [xi 4, xr (94 + n2)]) rfl ?_
        refine ex_iald (j := 4) rfl (by omega) (x_sh94 n2 (by omega)) (by decide) (by decide) (by decide) ?_
        rw [(hBW.2.2.1 n2 4 (by omega) (by decide)).1]
        refine ex_reti rfl rfl ?_
        refine x_CQ.of (M := xM_m_of) rfl (Nat.le_of_ble_eq_true rfl) ?_
        refine ex_st 2 (pc' := 2) (ls' := [(0, xr 143), (1, xi (↑n2)), (2, xi 24)]) (st' := [xi (↑n2), xr 143]) rfl ?_
        refine ex_call (ct_m_isOfficial2 (c := I 143 0) (by constructor <;> omega) (hJ _ _ (by omega)) (by omega)) (by decide) rfl ⟨rfl, rfl, rfl⟩ ⟨Nat.le_of_ble_eq_true rfl, rfl, rfl⟩ (Nat.le_of_ble_eq_true rfl) rfl ?_
        refine ex_bne rfl (fun h3 => ?_) (fun h3 => ?_)
        · refine ex_st 4 (pc' := 18) (ls' := [(0, xr 143), (1, xi (↑n2)), (2, xi 24)]) (st' := [xi 14, xi 10, xi 24, xr 143]) rfl ?_
          refine ex_call (ct_m_in (by first | omega | (constructor <;> omega) | assumption) (by first | omega | (constructor <;> omega) | assumption) (by first | omega | (constructor <;> omega) | assumption)) (by decide) rfl ⟨rfl, rfl, rfl⟩ ⟨Nat.le_of_ble_eq_true rfl, rfl, rfl⟩ (Nat.le_of_ble_eq_true rfl) rfl ?_
          refine ex_beq rfl (fun h4 => ?_) (fun h4 => ?_)
          · refine ex_st 4 (pc' := 44) (ls' := [(0, xr 143), (1, xi (↑n2)), (2, xi 24)]) (st' := [xi 24, xi 20, xi 24, xr 143]) rfl ?_
            refine ex_call (ct_m_in (by first | omega | (constructor <;> omega) | assumption) (by first | omega | (constructor <;> omega) | assumption) (by first | omega | (constructor <;> omega) | assumption)) (by decide) rfl ⟨rfl, rfl, rfl⟩ ⟨Nat.le_of_ble_eq_true rfl, rfl, rfl⟩ (Nat.le_of_ble_eq_true rfl) rfl ?_
            refine ex_beq rfl (fun h5 => ?_) (fun h5 => ?_)
            · exfalso; omega
            · refine ex_st 5 (pc' := 56) (ls' := [(0, xr 143), (1, xi (↑n2)), (2, xi 24)]) (st' := [xi 4, xi (↑n2), xr 143]) rfl ?_
              have hMx := hM.fr2 (I' := J) (fun k j a b => hJ k j (by omega))
              have hTx := hMT.fr2 (I' := J) (fun k j a b => hJ k j (by omega))
              have hgx : J 143 1 = (g : Int) := by rw [hJ _ _ (by omega)]; exact hg1
              have hnx : J 143 2 = (n : Int) := by rw [hJ _ _ (by omega)]; exact hn
              have hagx : ∀ k, k < n → J 150 k = (ag k : Int) ∧ ag k < 5 := fun k hk => by rw [hJ _ _ (by omega)]; exact hag k hk
              have hXI : ∀ k j, ¬ (92 ≤ k ∧ k ≤ 103) → J k j = I k j := fun k j hk => hJ k j (by omega)
              refine ex_callQ (ct_m_likes (L := L) hMx hTx (p := n2) (x := 4) (by omega) (by decide) (fun _ _ _ => rfl)) (by decide) rfl ⟨rfl, rfl, rfl⟩ ⟨Nat.le_of_ble_eq_true rfl, rfl, rfl⟩ (Nat.le_of_ble_eq_true rfl) rfl (fun ra m2 hQ => ?_)
              obtain ⟨rfl, K, rfl, hK⟩ := hQ
              have hKI : ∀ k j, ¬ (92 ≤ k ∧ k ≤ 103) → ¬ x_ms k j → K k j = I k j := fun k j h1 h2 => by rw [hK _ _ (by unfold x_ms at h2; omega), hXI _ _ h1]
              refine ex_reti rfl rfl ?_
              exact ⟨x_req (by first | rfl | omega), _, _, rfl, hR.fr (fun k j hk => hKI k j (by unfold x_scr at hk; omega) (by unfold x_scr at hk; unfold x_ms; omega)) (fun _ _ => rfl)⟩
          · exfalso; omega
        · exfalso; omega
    · exfalso; omega
  · exfalso; omega
theorem op_of_14 {sc : List Int} {I : Nat → Nat → Int} {L : Nat → Nat → Int64} (hR : Rl I L) {n2 : Nat} (hv : (n2 : Int) < I 1 1) : x_PQ sc xN_G_of [xr 0, xi (↑n2), xi 14] xN_m_of [xr 143, xi (↑n2), xi 14] (xSH, I, L) := by
  obtain ⟨⟨hNs, hNo, hNa, hNb, hNr, hNd, hNg, hNe, hNp, hNk⟩, hI, hT, hX, hC, hH, hQ⟩ := id hR
  have hs := hNs
  unfold RNs at hs
  have hb := hNb n2 4 (by omega) (by decide)
  refine x_CQ.of (M := xM_G_of) rfl (Nat.le_of_ble_eq_true rfl) ?_
  refine ex_st 2 (pc' := 2) (ls' := [(0, xr 0), (1, xi (↑n2)), (2, xi 14)]) (st' := [xi (↑n2), xr 0]) rfl ?_
  refine ex_call (ct_G_isOfficial2 (c := I 1 1) (by first | omega | (constructor <;> omega) | assumption | ((repeat rw [x_up_far (by omega)]); first | rfl | omega | (constructor <;> omega))) (by (repeat rw [x_up_far (by omega)]); try rfl) (by first | omega | (constructor <;> omega) | assumption | ((repeat rw [x_up_far (by omega)]); first | rfl | omega | (constructor <;> omega)))) (by decide) rfl ⟨rfl, rfl, rfl⟩ ⟨Nat.le_of_ble_eq_true rfl, rfl, rfl⟩ (Nat.le_of_ble_eq_true rfl) rfl ?_
  refine ex_bne rfl (fun h0 => ?_) (fun h0 => ?_)
  · refine ex_st 4 (pc' := 20) (ls' := [(0, xr 0), (1, xi (↑n2)), (2, xi 14)]) (st' := [xi (↑n2), xr 2]) rfl ?_
    refine ex_aald (q := 11 + 3 * n2) (j := n2) rfl (by decide) (rfl : xSH[2]? = some _) (by decide) (by omega) (by omega) (by decide) (x_aa2 n2 (by omega)) (by omega) ?_
    refine ex_st 4 (pc' := 26) (ls' := [(3, xr (11 + 3 * n2)), (0, xr 0), (1, xi (↑n2)), (2, xi 14)]) (st' := [xi 4]) rfl ?_
    refine ex_call (ct_G_isThing2 (by omega)) (by decide) rfl ⟨rfl, rfl, rfl⟩ ⟨Nat.le_of_ble_eq_true rfl, rfl, rfl⟩ (Nat.le_of_ble_eq_true rfl) rfl ?_
    refine ex_beq rfl (fun h1 => ?_) (fun h1 => ?_)
    · exfalso; omega
    · refine ex_st 1 (pc' := 33) (ls' := [(3, xr (11 + 3 * n2)), (0, xr 0), (1, xi (↑n2)), (2, xi 14)]) (st' := [xr (11 + 3 * n2)]) rfl ?_
      refine ex_gfr rfl (by omega) (x_so1 n2 (by omega)).1 (by decide) (by decide) rfl ?_
      refine ex_st 3 (pc' := 40) (ls' := [(3, xr (11 + 3 * n2)), (0, xr 0), (1, xi (↑n2)), (2, xi 14)]) (st' := [xi 4, xr (11 + 3 * n2 + 1)]) rfl ?_
      refine ex_iald (j := 4) rfl (by omega) (x_so1 n2 (by omega)).2.1 (by decide) (by decide) (by decide) ?_
      refine ex_reti rfl rfl ?_
      refine x_CQ.of (M := xM_m_of) rfl (Nat.le_of_ble_eq_true rfl) ?_
      refine ex_st 2 (pc' := 2) (ls' := [(0, xr 143), (1, xi (↑n2)), (2, xi 14)]) (st' := [xi (↑n2), xr 143]) rfl ?_
      refine ex_call (ct_m_isOfficial2 (c := I 143 0) (by first | omega | (constructor <;> omega) | assumption | ((repeat rw [x_up_far (by omega)]); first | rfl | omega | (constructor <;> omega))) (by (repeat rw [x_up_far (by omega)]); try rfl) (by first | omega | (constructor <;> omega) | assumption | ((repeat rw [x_up_far (by omega)]); first | rfl | omega | (constructor <;> omega)))) (by decide) rfl ⟨rfl, rfl, rfl⟩ ⟨Nat.le_of_ble_eq_true rfl, rfl, rfl⟩ (Nat.le_of_ble_eq_true rfl) rfl ?_
      refine ex_bne rfl (fun h2 => ?_) (fun h2 => ?_)
      · refine ex_st 4 (pc' := 18) (ls' := [(0, xr 143), (1, xi (↑n2)), (2, xi 14)]) (st' := [xi 14, xi 10, xi 14, xr 143]) rfl ?_
        refine ex_call (ct_m_in (by first | omega | (constructor <;> omega) | assumption) (by first | omega | (constructor <;> omega) | assumption) (by first | omega | (constructor <;> omega) | assumption)) (by decide) rfl ⟨rfl, rfl, rfl⟩ ⟨Nat.le_of_ble_eq_true rfl, rfl, rfl⟩ (Nat.le_of_ble_eq_true rfl) rfl ?_
        refine ex_beq rfl (fun h3 => ?_) (fun h3 => ?_)
        · exfalso; omega
        · refine ex_st 9 (pc' := 36) (ls' := [(0, xr 143), (1, xi (↑n2)), (2, xi 14)]) (st' := [xi (((5 * (↑n2)) + 14) - 10), xr 147]) rfl ?_
          refine ex_iald (j := (((5 * (n2)) + 14) - 10)) rfl (by decide) (rfl : xSH[147]? = some _) (by omega) (by omega) (by decide) ?_
          refine ex_reti rfl rfl ?_
          exact ⟨x_req (by first | omega | (rw [show 5 * n2 + 14 - 10 = 5 * n2 + 4 from by omega]; omega)), _, _, rfl, hR⟩
      · exfalso; omega
  · exfalso; omega
theorem op_of_0 {sc : List Int} {I : Nat → Nat → Int} {L : Nat → Nat → Int64} (hR : Rl I L) {n2 : Nat} (hv : (n2 : Int) < I 1 1) : x_PQ sc xN_G_of [xr 0, xi (↑n2), xi 0] xN_m_of [xr 143, xi (↑n2), xi 0] (xSH, I, L) := by
  obtain ⟨⟨hNs, hNo, hNa, hNb, hNr, hNd, hNg, hNe, hNp, hNk⟩, hI, hT, hX, hC, hH, hQ⟩ := id hR
  have hs := hNs
  unfold RNs at hs
  obtain ⟨hna, hnb, hnc⟩ := id hNa
  obtain ⟨sa, hsa⟩ := Int.eq_ofNat_of_zero_le hnb
  rw [hsa] at hna hnc
  simp only [Int.toNat_natCast] at hna
  have haw := hna n2 (by omega)
  unfold x_b at haw
  have ho := hNo n2 (by omega)
  refine x_CQ.of (M := xM_G_of) rfl (Nat.le_of_ble_eq_true rfl) ?_
  refine ex_st 2 (pc' := 2) (ls' := [(0, xr 0), (1, xi (↑n2)), (2, xi 0)]) (st' := [xi (↑n2), xr 0]) rfl ?_
  refine ex_call (ct_G_isOfficial2 (c := I 1 1) (by first | omega | (constructor <;> omega) | assumption | ((repeat rw [x_up_far (by omega)]); first | rfl | omega | (constructor <;> omega))) (by (repeat rw [x_up_far (by omega)]); try rfl) (by first | omega | (constructor <;> omega) | assumption | ((repeat rw [x_up_far (by omega)]); first | rfl | omega | (constructor <;> omega)))) (by decide) rfl ⟨rfl, rfl, rfl⟩ ⟨Nat.le_of_ble_eq_true rfl, rfl, rfl⟩ (Nat.le_of_ble_eq_true rfl) rfl ?_
  refine ex_bne rfl (fun h0 => ?_) (fun h0 => ?_)
  · refine ex_st 4 (pc' := 20) (ls' := [(0, xr 0), (1, xi (↑n2)), (2, xi 0)]) (st' := [xi (↑n2), xr 2]) rfl ?_
    refine ex_aald (q := 11 + 3 * n2) (j := n2) rfl (by decide) (rfl : xSH[2]? = some _) (by decide) (by omega) (by omega) (by decide) (x_aa2 n2 (by omega)) (by omega) ?_
    refine ex_st 4 (pc' := 26) (ls' := [(3, xr (11 + 3 * n2)), (0, xr 0), (1, xi (↑n2)), (2, xi 0)]) (st' := [xi (-10)]) rfl ?_
    refine ex_call (ct_G_isThing2 (by omega)) (by decide) rfl ⟨rfl, rfl, rfl⟩ ⟨Nat.le_of_ble_eq_true rfl, rfl, rfl⟩ (Nat.le_of_ble_eq_true rfl) rfl ?_
    refine ex_beq rfl (fun h1 => ?_) (fun h1 => ?_)
    · refine ex_st 3 (pc' := 46) (ls' := [(3, xr (11 + 3 * n2)), (0, xr 0), (1, xi (↑n2)), (2, xi 0)]) (st' := [xi (-20)]) rfl ?_
      refine ex_call (ct_G_isThing2 (by omega)) (by decide) rfl ⟨rfl, rfl, rfl⟩ ⟨Nat.le_of_ble_eq_true rfl, rfl, rfl⟩ (Nat.le_of_ble_eq_true rfl) rfl ?_
      refine ex_beq rfl (fun h2 => ?_) (fun h2 => ?_)
      · refine ex_st 1 (pc' := 72) (ls' := [(3, xr (11 + 3 * n2)), (0, xr 0), (1, xi (↑n2)), (2, xi 0)]) (st' := [xi 0]) rfl ?_
        refine ex_st 1 (pc' := 104) (ls' := [(3, xr (11 + 3 * n2)), (0, xr 0), (1, xi (↑n2)), (2, xi 0)]) (st' := []) rfl ?_
        refine ex_st 1 (pc' := 105) (ls' := [(3, xr (11 + 3 * n2)), (0, xr 0), (1, xi (↑n2)), (2, xi 0)]) (st' := [xr (11 + 3 * n2)]) rfl ?_
        refine ex_gfi rfl (by omega) (x_so1 n2 (by omega)).1 (by decide) (by decide) rfl ?_
        refine ex_reti rfl rfl ?_
        refine x_CQ.of (M := xM_m_of) rfl (Nat.le_of_ble_eq_true rfl) ?_
        refine ex_st 2 (pc' := 2) (ls' := [(0, xr 143), (1, xi (↑n2)), (2, xi 0)]) (st' := [xi (↑n2), xr 143]) rfl ?_
        refine ex_call (ct_m_isOfficial2 (c := I 143 0) (by first | omega | (constructor <;> omega) | assumption | ((repeat rw [x_up_far (by omega)]); first | rfl | omega | (constructor <;> omega))) (by (repeat rw [x_up_far (by omega)]); try rfl) (by first | omega | (constructor <;> omega) | assumption | ((repeat rw [x_up_far (by omega)]); first | rfl | omega | (constructor <;> omega)))) (by decide) rfl ⟨rfl, rfl, rfl⟩ ⟨Nat.le_of_ble_eq_true rfl, rfl, rfl⟩ (Nat.le_of_ble_eq_true rfl) rfl ?_
        refine ex_bne rfl (fun h3 => ?_) (fun h3 => ?_)
        · refine ex_st 4 (pc' := 18) (ls' := [(0, xr 143), (1, xi (↑n2)), (2, xi 0)]) (st' := [xi 14, xi 10, xi 0, xr 143]) rfl ?_
          refine ex_call (ct_m_in (by first | omega | (constructor <;> omega) | assumption) (by first | omega | (constructor <;> omega) | assumption) (by first | omega | (constructor <;> omega) | assumption)) (by decide) rfl ⟨rfl, rfl, rfl⟩ ⟨Nat.le_of_ble_eq_true rfl, rfl, rfl⟩ (Nat.le_of_ble_eq_true rfl) rfl ?_
          refine ex_beq rfl (fun h4 => ?_) (fun h4 => ?_)
          · refine ex_st 4 (pc' := 44) (ls' := [(0, xr 143), (1, xi (↑n2)), (2, xi 0)]) (st' := [xi 24, xi 20, xi 0, xr 143]) rfl ?_
            refine ex_call (ct_m_in (by first | omega | (constructor <;> omega) | assumption) (by first | omega | (constructor <;> omega) | assumption) (by first | omega | (constructor <;> omega) | assumption)) (by decide) rfl ⟨rfl, rfl, rfl⟩ ⟨Nat.le_of_ble_eq_true rfl, rfl, rfl⟩ (Nat.le_of_ble_eq_true rfl) rfl ?_
            refine ex_beq rfl (fun h5 => ?_) (fun h5 => ?_)
            · refine ex_st 1 (pc' := 61) (ls' := [(0, xr 143), (1, xi (↑n2)), (2, xi 0)]) (st' := [xi 0]) rfl ?_
              refine ex_st 1 (pc' := 92) (ls' := [(0, xr 143), (1, xi (↑n2)), (2, xi 0)]) (st' := []) rfl ?_
              refine ex_st 3 (pc' := 97) (ls' := [(0, xr 143), (1, xi (↑n2)), (2, xi 0)]) (st' := [xi (↑n2), xr 144]) rfl ?_
              refine ex_iald (j := n2) rfl (by decide) (rfl : xSH[144]? = some _) (by omega) (by omega) (by decide) ?_
              refine ex_reti rfl rfl ?_
              exact ⟨x_req (by first | rfl | omega), _, _, rfl, hR⟩
            · exfalso; (first | omega | (split at haw <;> first | omega | contradiction))
          · exfalso; (first | omega | (split at haw <;> first | omega | contradiction))
        · exfalso; (first | omega | (split at haw <;> first | omega | contradiction))
      · exfalso; (first | omega | (split at haw <;> first | omega | contradiction))
    · exfalso; (first | omega | (split at haw <;> first | omega | contradiction))
  · exfalso; (first | omega | (split at haw <;> first | omega | contradiction))
theorem op_of_1 {sc : List Int} {I : Nat → Nat → Int} {L : Nat → Nat → Int64} (hR : Rl I L) {n2 : Nat} (hv : (n2 : Int) < I 1 1) : x_PQ sc xN_G_of [xr 0, xi (↑n2), xi 1] xN_m_of [xr 143, xi (↑n2), xi 1] (xSH, I, L) := by
  obtain ⟨⟨hNs, hNo, hNa, hNb, hNr, hNd, hNg, hNe, hNp, hNk⟩, hI, hT, hX, hC, hH, hQ⟩ := id hR
  have hs := hNs
  unfold RNs at hs
  obtain ⟨hna, hnb, hnc⟩ := id hNa
  obtain ⟨sa, hsa⟩ := Int.eq_ofNat_of_zero_le hnb
  rw [hsa] at hna hnc
  simp only [Int.toNat_natCast] at hna
  have haw := hna n2 (by omega)
  unfold x_b at haw
  have ho := hNo n2 (by omega)
  refine x_CQ.of (M := xM_G_of) rfl (Nat.le_of_ble_eq_true rfl) ?_
  refine ex_st 2 (pc' := 2) (ls' := [(0, xr 0), (1, xi (↑n2)), (2, xi 1)]) (st' := [xi (↑n2), xr 0]) rfl ?_
  refine ex_call (ct_G_isOfficial2 (c := I 1 1) (by first | omega | (constructor <;> omega) | assumption | ((repeat rw [x_up_far (by omega)]); first | rfl | omega | (constructor <;> omega))) (by (repeat rw [x_up_far (by omega)]); try rfl) (by first | omega | (constructor <;> omega) | assumption | ((repeat rw [x_up_far (by omega)]); first | rfl | omega | (constructor <;> omega)))) (by decide) rfl ⟨rfl, rfl, rfl⟩ ⟨Nat.le_of_ble_eq_true rfl, rfl, rfl⟩ (Nat.le_of_ble_eq_true rfl) rfl ?_
  refine ex_bne rfl (fun h0 => ?_) (fun h0 => ?_)
  · refine ex_st 4 (pc' := 20) (ls' := [(0, xr 0), (1, xi (↑n2)), (2, xi 1)]) (st' := [xi (↑n2), xr 2]) rfl ?_
    refine ex_aald (q := 11 + 3 * n2) (j := n2) rfl (by decide) (rfl : xSH[2]? = some _) (by decide) (by omega) (by omega) (by decide) (x_aa2 n2 (by omega)) (by omega) ?_
    refine ex_st 4 (pc' := 26) (ls' := [(3, xr (11 + 3 * n2)), (0, xr 0), (1, xi (↑n2)), (2, xi 1)]) (st' := [xi (-9)]) rfl ?_
    refine ex_call (ct_G_isThing2 (by omega)) (by decide) rfl ⟨rfl, rfl, rfl⟩ ⟨Nat.le_of_ble_eq_true rfl, rfl, rfl⟩ (Nat.le_of_ble_eq_true rfl) rfl ?_
    refine ex_beq rfl (fun h1 => ?_) (fun h1 => ?_)
    · refine ex_st 3 (pc' := 46) (ls' := [(3, xr (11 + 3 * n2)), (0, xr 0), (1, xi (↑n2)), (2, xi 1)]) (st' := [xi (-19)]) rfl ?_
      refine ex_call (ct_G_isThing2 (by omega)) (by decide) rfl ⟨rfl, rfl, rfl⟩ ⟨Nat.le_of_ble_eq_true rfl, rfl, rfl⟩ (Nat.le_of_ble_eq_true rfl) rfl ?_
      refine ex_beq rfl (fun h2 => ?_) (fun h2 => ?_)
      · refine ex_st 1 (pc' := 72) (ls' := [(3, xr (11 + 3 * n2)), (0, xr 0), (1, xi (↑n2)), (2, xi 1)]) (st' := [xi 1]) rfl ?_
        refine ex_st 1 (pc' := 109) (ls' := [(3, xr (11 + 3 * n2)), (0, xr 0), (1, xi (↑n2)), (2, xi 1)]) (st' := []) rfl ?_
        refine ex_st 1 (pc' := 110) (ls' := [(3, xr (11 + 3 * n2)), (0, xr 0), (1, xi (↑n2)), (2, xi 1)]) (st' := [xr (11 + 3 * n2)]) rfl ?_
        refine ex_gfi rfl (by omega) (x_so1 n2 (by omega)).1 (by decide) (by decide) rfl ?_
        refine ex_reti rfl rfl ?_
        refine x_CQ.of (M := xM_m_of) rfl (Nat.le_of_ble_eq_true rfl) ?_
        refine ex_st 2 (pc' := 2) (ls' := [(0, xr 143), (1, xi (↑n2)), (2, xi 1)]) (st' := [xi (↑n2), xr 143]) rfl ?_
        refine ex_call (ct_m_isOfficial2 (c := I 143 0) (by first | omega | (constructor <;> omega) | assumption | ((repeat rw [x_up_far (by omega)]); first | rfl | omega | (constructor <;> omega))) (by (repeat rw [x_up_far (by omega)]); try rfl) (by first | omega | (constructor <;> omega) | assumption | ((repeat rw [x_up_far (by omega)]); first | rfl | omega | (constructor <;> omega)))) (by decide) rfl ⟨rfl, rfl, rfl⟩ ⟨Nat.le_of_ble_eq_true rfl, rfl, rfl⟩ (Nat.le_of_ble_eq_true rfl) rfl ?_
        refine ex_bne rfl (fun h3 => ?_) (fun h3 => ?_)
        · refine ex_st 4 (pc' := 18) (ls' := [(0, xr 143), (1, xi (↑n2)), (2, xi 1)]) (st' := [xi 14, xi 10, xi 1, xr 143]) rfl ?_
          refine ex_call (ct_m_in (by first | omega | (constructor <;> omega) | assumption) (by first | omega | (constructor <;> omega) | assumption) (by first | omega | (constructor <;> omega) | assumption)) (by decide) rfl ⟨rfl, rfl, rfl⟩ ⟨Nat.le_of_ble_eq_true rfl, rfl, rfl⟩ (Nat.le_of_ble_eq_true rfl) rfl ?_
          refine ex_beq rfl (fun h4 => ?_) (fun h4 => ?_)
          · refine ex_st 4 (pc' := 44) (ls' := [(0, xr 143), (1, xi (↑n2)), (2, xi 1)]) (st' := [xi 24, xi 20, xi 1, xr 143]) rfl ?_
            refine ex_call (ct_m_in (by first | omega | (constructor <;> omega) | assumption) (by first | omega | (constructor <;> omega) | assumption) (by first | omega | (constructor <;> omega) | assumption)) (by decide) rfl ⟨rfl, rfl, rfl⟩ ⟨Nat.le_of_ble_eq_true rfl, rfl, rfl⟩ (Nat.le_of_ble_eq_true rfl) rfl ?_
            refine ex_beq rfl (fun h5 => ?_) (fun h5 => ?_)
            · refine ex_st 1 (pc' := 61) (ls' := [(0, xr 143), (1, xi (↑n2)), (2, xi 1)]) (st' := [xi 1]) rfl ?_
              refine ex_st 1 (pc' := 99) (ls' := [(0, xr 143), (1, xi (↑n2)), (2, xi 1)]) (st' := []) rfl ?_
              refine ex_st 3 (pc' := 104) (ls' := [(0, xr 143), (1, xi (↑n2)), (2, xi 1)]) (st' := [xi (↑n2), xr 145]) rfl ?_
              refine ex_iald (j := n2) rfl (by decide) (rfl : xSH[145]? = some _) (by omega) (by omega) (by decide) ?_
              refine ex_reti rfl rfl ?_
              exact ⟨x_req (by first | rfl | omega), _, _, rfl, hR⟩
            · exfalso; (first | omega | (split at haw <;> first | omega | contradiction))
          · exfalso; (first | omega | (split at haw <;> first | omega | contradiction))
        · exfalso; (first | omega | (split at haw <;> first | omega | contradiction))
      · exfalso; (first | omega | (split at haw <;> first | omega | contradiction))
    · exfalso; (first | omega | (split at haw <;> first | omega | contradiction))
  · exfalso; (first | omega | (split at haw <;> first | omega | contradiction))
theorem op_of_2 {sc : List Int} {I : Nat → Nat → Int} {L : Nat → Nat → Int64} (hR : Rl I L) {n2 : Nat} (hv : (n2 : Int) < I 1 1) : x_PQ sc xN_G_of [xr 0, xi (↑n2), xi 2] xN_m_of [xr 143, xi (↑n2), xi 2] (xSH, I, L) := by
  obtain ⟨⟨hNs, hNo, hNa, hNb, hNr, hNd, hNg, hNe, hNp, hNk⟩, hI, hT, hX, hC, hH, hQ⟩ := id hR
  have hs := hNs
  unfold RNs at hs
  obtain ⟨hna, hnb, hnc⟩ := id hNa
  obtain ⟨sa, hsa⟩ := Int.eq_ofNat_of_zero_le hnb
  rw [hsa] at hna hnc
  simp only [Int.toNat_natCast] at hna
  have haw := hna n2 (by omega)
  unfold x_b at haw
  have ho := hNo n2 (by omega)
  refine x_CQ.of (M := xM_G_of) rfl (Nat.le_of_ble_eq_true rfl) ?_
  refine ex_st 2 (pc' := 2) (ls' := [(0, xr 0), (1, xi (↑n2)), (2, xi 2)]) (st' := [xi (↑n2), xr 0]) rfl ?_
  refine ex_call (ct_G_isOfficial2 (c := I 1 1) (by first | omega | (constructor <;> omega) | assumption | ((repeat rw [x_up_far (by omega)]); first | rfl | omega | (constructor <;> omega))) (by (repeat rw [x_up_far (by omega)]); try rfl) (by first | omega | (constructor <;> omega) | assumption | ((repeat rw [x_up_far (by omega)]); first | rfl | omega | (constructor <;> omega)))) (by decide) rfl ⟨rfl, rfl, rfl⟩ ⟨Nat.le_of_ble_eq_true rfl, rfl, rfl⟩ (Nat.le_of_ble_eq_true rfl) rfl ?_
  refine ex_bne rfl (fun h0 => ?_) (fun h0 => ?_)
  · refine ex_st 4 (pc' := 20) (ls' := [(0, xr 0), (1, xi (↑n2)), (2, xi 2)]) (st' := [xi (↑n2), xr 2]) rfl ?_
    refine ex_aald (q := 11 + 3 * n2) (j := n2) rfl (by decide) (rfl : xSH[2]? = some _) (by decide) (by omega) (by omega) (by decide) (x_aa2 n2 (by omega)) (by omega) ?_
    refine ex_st 4 (pc' := 26) (ls' := [(3, xr (11 + 3 * n2)), (0, xr 0), (1, xi (↑n2)), (2, xi 2)]) (st' := [xi (-8)]) rfl ?_
    refine ex_call (ct_G_isThing2 (by omega)) (by decide) rfl ⟨rfl, rfl, rfl⟩ ⟨Nat.le_of_ble_eq_true rfl, rfl, rfl⟩ (Nat.le_of_ble_eq_true rfl) rfl ?_
    refine ex_beq rfl (fun h1 => ?_) (fun h1 => ?_)
    · refine ex_st 3 (pc' := 46) (ls' := [(3, xr (11 + 3 * n2)), (0, xr 0), (1, xi (↑n2)), (2, xi 2)]) (st' := [xi (-18)]) rfl ?_
      refine ex_call (ct_G_isThing2 (by omega)) (by decide) rfl ⟨rfl, rfl, rfl⟩ ⟨Nat.le_of_ble_eq_true rfl, rfl, rfl⟩ (Nat.le_of_ble_eq_true rfl) rfl ?_
      refine ex_beq rfl (fun h2 => ?_) (fun h2 => ?_)
      · refine ex_st 1 (pc' := 72) (ls' := [(3, xr (11 + 3 * n2)), (0, xr 0), (1, xi (↑n2)), (2, xi 2)]) (st' := [xi 2]) rfl ?_
        refine ex_st 1 (pc' := 114) (ls' := [(3, xr (11 + 3 * n2)), (0, xr 0), (1, xi (↑n2)), (2, xi 2)]) (st' := []) rfl ?_
        refine ex_st 1 (pc' := 115) (ls' := [(3, xr (11 + 3 * n2)), (0, xr 0), (1, xi (↑n2)), (2, xi 2)]) (st' := [xr (11 + 3 * n2)]) rfl ?_
        refine ex_gfi rfl (by omega) (x_so1 n2 (by omega)).1 (by decide) (by decide) rfl ?_
        refine ex_reti rfl rfl ?_
        refine x_CQ.of (M := xM_m_of) rfl (Nat.le_of_ble_eq_true rfl) ?_
        refine ex_st 2 (pc' := 2) (ls' := [(0, xr 143), (1, xi (↑n2)), (2, xi 2)]) (st' := [xi (↑n2), xr 143]) rfl ?_
        refine ex_call (ct_m_isOfficial2 (c := I 143 0) (by first | omega | (constructor <;> omega) | assumption | ((repeat rw [x_up_far (by omega)]); first | rfl | omega | (constructor <;> omega))) (by (repeat rw [x_up_far (by omega)]); try rfl) (by first | omega | (constructor <;> omega) | assumption | ((repeat rw [x_up_far (by omega)]); first | rfl | omega | (constructor <;> omega)))) (by decide) rfl ⟨rfl, rfl, rfl⟩ ⟨Nat.le_of_ble_eq_true rfl, rfl, rfl⟩ (Nat.le_of_ble_eq_true rfl) rfl ?_
        refine ex_bne rfl (fun h3 => ?_) (fun h3 => ?_)
        · refine ex_st 4 (pc' := 18) (ls' := [(0, xr 143), (1, xi (↑n2)), (2, xi 2)]) (st' := [xi 14, xi 10, xi 2, xr 143]) rfl ?_
          refine ex_call (ct_m_in (by first | omega | (constructor <;> omega) | assumption) (by first | omega | (constructor <;> omega) | assumption) (by first | omega | (constructor <;> omega) | assumption)) (by decide) rfl ⟨rfl, rfl, rfl⟩ ⟨Nat.le_of_ble_eq_true rfl, rfl, rfl⟩ (Nat.le_of_ble_eq_true rfl) rfl ?_
          refine ex_beq rfl (fun h4 => ?_) (fun h4 => ?_)
          · refine ex_st 4 (pc' := 44) (ls' := [(0, xr 143), (1, xi (↑n2)), (2, xi 2)]) (st' := [xi 24, xi 20, xi 2, xr 143]) rfl ?_
            refine ex_call (ct_m_in (by first | omega | (constructor <;> omega) | assumption) (by first | omega | (constructor <;> omega) | assumption) (by first | omega | (constructor <;> omega) | assumption)) (by decide) rfl ⟨rfl, rfl, rfl⟩ ⟨Nat.le_of_ble_eq_true rfl, rfl, rfl⟩ (Nat.le_of_ble_eq_true rfl) rfl ?_
            refine ex_beq rfl (fun h5 => ?_) (fun h5 => ?_)
            · refine ex_st 1 (pc' := 61) (ls' := [(0, xr 143), (1, xi (↑n2)), (2, xi 2)]) (st' := [xi 2]) rfl ?_
              refine ex_st 1 (pc' := 106) (ls' := [(0, xr 143), (1, xi (↑n2)), (2, xi 2)]) (st' := []) rfl ?_
              refine ex_st 3 (pc' := 111) (ls' := [(0, xr 143), (1, xi (↑n2)), (2, xi 2)]) (st' := [xi (↑n2), xr 146]) rfl ?_
              refine ex_iald (j := n2) rfl (by decide) (rfl : xSH[146]? = some _) (by omega) (by omega) (by decide) ?_
              refine ex_reti rfl rfl ?_
              exact ⟨x_req (by first | rfl | omega), _, _, rfl, hR⟩
            · exfalso; (first | omega | (split at haw <;> first | omega | contradiction))
          · exfalso; (first | omega | (split at haw <;> first | omega | contradiction))
        · exfalso; (first | omega | (split at haw <;> first | omega | contradiction))
      · exfalso; (first | omega | (split at haw <;> first | omega | contradiction))
    · exfalso; (first | omega | (split at haw <;> first | omega | contradiction))
  · exfalso; (first | omega | (split at haw <;> first | omega | contradiction))
theorem op_of_3 {sc : List Int} {I : Nat → Nat → Int} {L : Nat → Nat → Int64} (hR : Rl I L) {n2 : Nat} (hv : (n2 : Int) < I 1 1) : x_PQ sc xN_G_of [xr 0, xi (↑n2), xi 3] xN_m_of [xr 143, xi (↑n2), xi 3] (xSH, I, L) := by
  obtain ⟨⟨hNs, hNo, hNa, hNb, hNr, hNd, hNg, hNe, hNp, hNk⟩, hI, hT, hX, hC, hH, hQ⟩ := id hR
  have hs := hNs
  unfold RNs at hs
  obtain ⟨hna, hnb, hnc⟩ := id hNa
  obtain ⟨sa, hsa⟩ := Int.eq_ofNat_of_zero_le hnb
  rw [hsa] at hna hnc
  simp only [Int.toNat_natCast] at hna
  have haw := hna n2 (by omega)
  unfold x_b at haw
  have ho := hNo n2 (by omega)
  refine x_CQ.of (M := xM_G_of) rfl (Nat.le_of_ble_eq_true rfl) ?_
  refine ex_st 2 (pc' := 2) (ls' := [(0, xr 0), (1, xi (↑n2)), (2, xi 3)]) (st' := [xi (↑n2), xr 0]) rfl ?_
  refine ex_call (ct_G_isOfficial2 (c := I 1 1) (by first | omega | (constructor <;> omega) | assumption | ((repeat rw [x_up_far (by omega)]); first | rfl | omega | (constructor <;> omega))) (by (repeat rw [x_up_far (by omega)]); try rfl) (by first | omega | (constructor <;> omega) | assumption | ((repeat rw [x_up_far (by omega)]); first | rfl | omega | (constructor <;> omega)))) (by decide) rfl ⟨rfl, rfl, rfl⟩ ⟨Nat.le_of_ble_eq_true rfl, rfl, rfl⟩ (Nat.le_of_ble_eq_true rfl) rfl ?_
  refine ex_bne rfl (fun h0 => ?_) (fun h0 => ?_)
  · refine ex_st 4 (pc' := 20) (ls' := [(0, xr 0), (1, xi (↑n2)), (2, xi 3)]) (st' := [xi (↑n2), xr 2]) rfl ?_
    refine ex_aald (q := 11 + 3 * n2) (j := n2) rfl (by decide) (rfl : xSH[2]? = some _) (by decide) (by omega) (by omega) (by decide) (x_aa2 n2 (by omega)) (by omega) ?_
    refine ex_st 4 (pc' := 26) (ls' := [(3, xr (11 + 3 * n2)), (0, xr 0), (1, xi (↑n2)), (2, xi 3)]) (st' := [xi (-7)]) rfl ?_
    refine ex_call (ct_G_isThing2 (by omega)) (by decide) rfl ⟨rfl, rfl, rfl⟩ ⟨Nat.le_of_ble_eq_true rfl, rfl, rfl⟩ (Nat.le_of_ble_eq_true rfl) rfl ?_
    refine ex_beq rfl (fun h1 => ?_) (fun h1 => ?_)
    · refine ex_st 3 (pc' := 46) (ls' := [(3, xr (11 + 3 * n2)), (0, xr 0), (1, xi (↑n2)), (2, xi 3)]) (st' := [xi (-17)]) rfl ?_
      refine ex_call (ct_G_isThing2 (by omega)) (by decide) rfl ⟨rfl, rfl, rfl⟩ ⟨Nat.le_of_ble_eq_true rfl, rfl, rfl⟩ (Nat.le_of_ble_eq_true rfl) rfl ?_
      refine ex_beq rfl (fun h2 => ?_) (fun h2 => ?_)
      · refine ex_st 1 (pc' := 72) (ls' := [(3, xr (11 + 3 * n2)), (0, xr 0), (1, xi (↑n2)), (2, xi 3)]) (st' := [xi 3]) rfl ?_
        refine ex_st 1 (pc' := 119) (ls' := [(3, xr (11 + 3 * n2)), (0, xr 0), (1, xi (↑n2)), (2, xi 3)]) (st' := []) rfl ?_
        refine ex_st 1 (pc' := 120) (ls' := [(3, xr (11 + 3 * n2)), (0, xr 0), (1, xi (↑n2)), (2, xi 3)]) (st' := [xr (11 + 3 * n2)]) rfl ?_
        refine ex_gfi rfl (by omega) (x_so1 n2 (by omega)).1 (by decide) (by decide) rfl ?_
        refine ex_if rfl (by first | omega | (constructor <;> omega) | assumption) (fun (h3 : (I (11 + 3 * n2) 3) = 0) => ?_) (fun (h3 : ¬ (I (11 + 3 * n2) 3) = 0) => ?_)
        · refine ex_st 1 (pc' := 131) (ls' := [(3, xr (11 + 3 * n2)), (0, xr 0), (1, xi (↑n2)), (2, xi 3)]) (st' := [xi 0]) rfl ?_
          refine ex_reti rfl rfl ?_
          refine x_CQ.of (M := xM_m_of) rfl (Nat.le_of_ble_eq_true rfl) ?_
          refine ex_st 2 (pc' := 2) (ls' := [(0, xr 143), (1, xi (↑n2)), (2, xi 3)]) (st' := [xi (↑n2), xr 143]) rfl ?_
          refine ex_call (ct_m_isOfficial2 (c := I 143 0) (by first | omega | (constructor <;> omega) | assumption | ((repeat rw [x_up_far (by omega)]); first | rfl | omega | (constructor <;> omega))) (by (repeat rw [x_up_far (by omega)]); try rfl) (by first | omega | (constructor <;> omega) | assumption | ((repeat rw [x_up_far (by omega)]); first | rfl | omega | (constructor <;> omega)))) (by decide) rfl ⟨rfl, rfl, rfl⟩ ⟨Nat.le_of_ble_eq_true rfl, rfl, rfl⟩ (Nat.le_of_ble_eq_true rfl) rfl ?_
          refine ex_bne rfl (fun h4 => ?_) (fun h4 => ?_)
          · refine ex_st 4 (pc' := 18) (ls' := [(0, xr 143), (1, xi (↑n2)), (2, xi 3)]) (st' := [xi 14, xi 10, xi 3, xr 143]) rfl ?_
            refine ex_call (ct_m_in (by first | omega | (constructor <;> omega) | assumption) (by first | omega | (constructor <;> omega) | assumption) (by first | omega | (constructor <;> omega) | assumption)) (by decide) rfl ⟨rfl, rfl, rfl⟩ ⟨Nat.le_of_ble_eq_true rfl, rfl, rfl⟩ (Nat.le_of_ble_eq_true rfl) rfl ?_
            refine ex_beq rfl (fun h5 => ?_) (fun h5 => ?_)
            · refine ex_st 4 (pc' := 44) (ls' := [(0, xr 143), (1, xi (↑n2)), (2, xi 3)]) (st' := [xi 24, xi 20, xi 3, xr 143]) rfl ?_
              refine ex_call (ct_m_in (by first | omega | (constructor <;> omega) | assumption) (by first | omega | (constructor <;> omega) | assumption) (by first | omega | (constructor <;> omega) | assumption)) (by decide) rfl ⟨rfl, rfl, rfl⟩ ⟨Nat.le_of_ble_eq_true rfl, rfl, rfl⟩ (Nat.le_of_ble_eq_true rfl) rfl ?_
              refine ex_beq rfl (fun h6 => ?_) (fun h6 => ?_)
              · refine ex_st 1 (pc' := 61) (ls' := [(0, xr 143), (1, xi (↑n2)), (2, xi 3)]) (st' := [xi 3]) rfl ?_
                refine ex_st 1 (pc' := 113) (ls' := [(0, xr 143), (1, xi (↑n2)), (2, xi 3)]) (st' := []) rfl ?_
                refine ex_st 3 (pc' := 118) (ls' := [(0, xr 143), (1, xi (↑n2)), (2, xi 3)]) (st' := [xi (I 143 1), xr 143]) rfl ?_
                rw [hsa]
                refine ex_st 1 (pc' := 119) (ls' := [(0, xr 143), (1, xi (↑n2)), (2, xi 3)]) (st' := [xi (↑n2), xi (↑sa), xr 143]) rfl ?_
                refine ex_call (ct_m_has (s := sa) (k := n2) (by omega) (by omega)) (by decide) rfl ⟨rfl, rfl, rfl⟩ ⟨Nat.le_of_ble_eq_true rfl, rfl, rfl⟩ (Nat.le_of_ble_eq_true rfl) rfl ?_
                refine ex_beq rfl (fun h7 => ?_) (fun h7 => ?_)
                · refine ex_st 1 (pc' := 130) (ls' := [(0, xr 143), (1, xi (↑n2)), (2, xi 3)]) (st' := [xi 0]) rfl ?_
                  refine ex_reti rfl rfl ?_
                  exact ⟨x_req (by first | rfl | omega), _, _, rfl, hR⟩
                · exfalso; (first | omega | (split at haw <;> first | omega | contradiction))
              · exfalso; (first | omega | (split at haw <;> first | omega | contradiction))
            · exfalso; (first | omega | (split at haw <;> first | omega | contradiction))
          · exfalso; (first | omega | (split at haw <;> first | omega | contradiction))
        · refine ex_st 2 (pc' := 131) (ls' := [(3, xr (11 + 3 * n2)), (0, xr 0), (1, xi (↑n2)), (2, xi 3)]) (st' := [xi 1]) rfl ?_
          refine ex_reti rfl rfl ?_
          refine x_CQ.of (M := xM_m_of) rfl (Nat.le_of_ble_eq_true rfl) ?_
          refine ex_st 2 (pc' := 2) (ls' := [(0, xr 143), (1, xi (↑n2)), (2, xi 3)]) (st' := [xi (↑n2), xr 143]) rfl ?_
          refine ex_call (ct_m_isOfficial2 (c := I 143 0) (by first | omega | (constructor <;> omega) | assumption | ((repeat rw [x_up_far (by omega)]); first | rfl | omega | (constructor <;> omega))) (by (repeat rw [x_up_far (by omega)]); try rfl) (by first | omega | (constructor <;> omega) | assumption | ((repeat rw [x_up_far (by omega)]); first | rfl | omega | (constructor <;> omega)))) (by decide) rfl ⟨rfl, rfl, rfl⟩ ⟨Nat.le_of_ble_eq_true rfl, rfl, rfl⟩ (Nat.le_of_ble_eq_true rfl) rfl ?_
          refine ex_bne rfl (fun h8 => ?_) (fun h8 => ?_)
          · refine ex_st 4 (pc' := 18) (ls' := [(0, xr 143), (1, xi (↑n2)), (2, xi 3)]) (st' := [xi 14, xi 10, xi 3, xr 143]) rfl ?_
            refine ex_call (ct_m_in (by first | omega | (constructor <;> omega) | assumption) (by first | omega | (constructor <;> omega) | assumption) (by first | omega | (constructor <;> omega) | assumption)) (by decide) rfl ⟨rfl, rfl, rfl⟩ ⟨Nat.le_of_ble_eq_true rfl, rfl, rfl⟩ (Nat.le_of_ble_eq_true rfl) rfl ?_
            refine ex_beq rfl (fun h9 => ?_) (fun h9 => ?_)
            · refine ex_st 4 (pc' := 44) (ls' := [(0, xr 143), (1, xi (↑n2)), (2, xi 3)]) (st' := [xi 24, xi 20, xi 3, xr 143]) rfl ?_
              refine ex_call (ct_m_in (by first | omega | (constructor <;> omega) | assumption) (by first | omega | (constructor <;> omega) | assumption) (by first | omega | (constructor <;> omega) | assumption)) (by decide) rfl ⟨rfl, rfl, rfl⟩ ⟨Nat.le_of_ble_eq_true rfl, rfl, rfl⟩ (Nat.le_of_ble_eq_true rfl) rfl ?_
              refine ex_beq rfl (fun h10 => ?_) (fun h10 => ?_)
              · refine ex_st 1 (pc' := 61) (ls' := [(0, xr 143), (1, xi (↑n2)), (2, xi 3)]) (st' := [xi 3]) rfl ?_
                refine ex_st 1 (pc' := 113) (ls' := [(0, xr 143), (1, xi (↑n2)), (2, xi 3)]) (st' := []) rfl ?_
                refine ex_st 3 (pc' := 118) (ls' := [(0, xr 143), (1, xi (↑n2)), (2, xi 3)]) (st' := [xi (I 143 1), xr 143]) rfl ?_
                rw [hsa]
                refine ex_st 1 (pc' := 119) (ls' := [(0, xr 143), (1, xi (↑n2)), (2, xi 3)]) (st' := [xi (↑n2), xi (↑sa), xr 143]) rfl ?_
                refine ex_call (ct_m_has (s := sa) (k := n2) (by omega) (by omega)) (by decide) rfl ⟨rfl, rfl, rfl⟩ ⟨Nat.le_of_ble_eq_true rfl, rfl, rfl⟩ (Nat.le_of_ble_eq_true rfl) rfl ?_
                refine ex_beq rfl (fun h11 => ?_) (fun h11 => ?_)
                · exfalso; (first | omega | (split at haw <;> first | omega | contradiction))
                · refine ex_st 2 (pc' := 130) (ls' := [(0, xr 143), (1, xi (↑n2)), (2, xi 3)]) (st' := [xi 1]) rfl ?_
                  refine ex_reti rfl rfl ?_
                  exact ⟨x_req (by first | rfl | omega), _, _, rfl, hR⟩
              · exfalso; (first | omega | (split at haw <;> first | omega | contradiction))
            · exfalso; (first | omega | (split at haw <;> first | omega | contradiction))
          · exfalso; (first | omega | (split at haw <;> first | omega | contradiction))
      · exfalso; (first | omega | (split at haw <;> first | omega | contradiction))
    · exfalso; (first | omega | (split at haw <;> first | omega | contradiction))
  · exfalso; (first | omega | (split at haw <;> first | omega | contradiction))
theorem op_of_x {sc : List Int} {I : Nat → Nat → Int} {L : Nat → Nat → Int64} (hR : Rl I L) {n2 : Nat} {x : Int} (hv : (n2 : Int) < I 1 1) (hx : x_R x) (h : ¬ (0 ≤ x ∧ x < 4) ∧ ¬ (10 ≤ x ∧ x < 15) ∧ ¬ (20 ≤ x ∧ x < 25)) : x_PQ sc xN_G_of [xr 0, xi (↑n2), xi x] xN_m_of [xr 143, xi (↑n2), xi x] (xSH, I, L) := by
  obtain ⟨⟨hNs, hNo, hNa, hNb, hNr, hNd, hNg, hNe, hNp, hNk⟩, hI, hT, hX, hC, hH, hQ⟩ := id hR
  have hs := hNs
  unfold RNs at hs
  refine x_CQ.of (M := xM_G_of) rfl (Nat.le_of_ble_eq_true rfl) ?_
  refine ex_st 2 (pc' := 2) (ls' := [(0, xr 0), (1, xi (↑n2)), (2, xi x)]) (st' := [xi (↑n2), xr 0]) rfl ?_
  refine ex_call (ct_G_isOfficial2 (c := I 1 1) (by first | omega | (constructor <;> omega) | assumption | ((repeat rw [x_up_far (by omega)]); first | rfl | omega | (constructor <;> omega))) (by (repeat rw [x_up_far (by omega)]); try rfl) (by first | omega | (constructor <;> omega) | assumption | ((repeat rw [x_up_far (by omega)]); first | rfl | omega | (constructor <;> omega)))) (by decide) rfl ⟨rfl, rfl, rfl⟩ ⟨Nat.le_of_ble_eq_true rfl, rfl, rfl⟩ (Nat.le_of_ble_eq_true rfl) rfl ?_
  refine ex_bne rfl (fun h0 => ?_) (fun h0 => ?_)
  · refine ex_st 4 (pc' := 20) (ls' := [(0, xr 0), (1, xi (↑n2)), (2, xi x)]) (st' := [xi (↑n2), xr 2]) rfl ?_
    refine ex_aald (q := 11 + 3 * n2) (j := n2) rfl (by decide) (rfl : xSH[2]? = some _) (by decide) (by omega) (by omega) (by decide) (x_aa2 n2 (by omega)) (by omega) ?_
    refine ex_st 4 (pc' := 26) (ls' := [(3, xr (11 + 3 * n2)), (0, xr 0), (1, xi (↑n2)), (2, xi x)]) (st' := [xi (x - 10)]) rfl ?_
    refine ex_call (ct_G_isThing2 (by omega)) (by decide) rfl ⟨rfl, rfl, rfl⟩ ⟨Nat.le_of_ble_eq_true rfl, rfl, rfl⟩ (Nat.le_of_ble_eq_true rfl) rfl ?_
    refine ex_beq rfl (fun h1 => ?_) (fun h1 => ?_)
    · refine ex_st 3 (pc' := 46) (ls' := [(3, xr (11 + 3 * n2)), (0, xr 0), (1, xi (↑n2)), (2, xi x)]) (st' := [xi (x - 20)]) rfl ?_
      refine ex_call (ct_G_isThing2 (by omega)) (by decide) rfl ⟨rfl, rfl, rfl⟩ ⟨Nat.le_of_ble_eq_true rfl, rfl, rfl⟩ (Nat.le_of_ble_eq_true rfl) rfl ?_
      refine ex_beq rfl (fun h2 => ?_) (fun h2 => ?_)
      · refine ex_st 1 (pc' := 72) (ls' := [(3, xr (11 + 3 * n2)), (0, xr 0), (1, xi (↑n2)), (2, xi x)]) (st' := [xi x]) rfl ?_
        by_cases h3 : (x : Int) = 0
        · exfalso; omega
        by_cases h4 : (x : Int) = 1
        · exfalso; omega
        by_cases h5 : (x : Int) = 2
        · exfalso; omega
        by_cases h6 : (x : Int) = 3
        · exfalso; omega
        refine ex_tsd rfl (by first | omega | (constructor <;> omega) | assumption) (by omega) ?_
        refine ex_st 1 (pc' := 135) (ls' := [(3, xr (11 + 3 * n2)), (0, xr 0), (1, xi (↑n2)), (2, xi x)]) (st' := [xi (-10001)]) rfl ?_
        refine ex_reti rfl rfl ?_
        refine x_CQ.of (M := xM_m_of) rfl (Nat.le_of_ble_eq_true rfl) ?_
        refine ex_st 2 (pc' := 2) (ls' := [(0, xr 143), (1, xi (↑n2)), (2, xi x)]) (st' := [xi (↑n2), xr 143]) rfl ?_
        refine ex_call (ct_m_isOfficial2 (c := I 143 0) (by first | omega | (constructor <;> omega) | assumption | ((repeat rw [x_up_far (by omega)]); first | rfl | omega | (constructor <;> omega))) (by (repeat rw [x_up_far (by omega)]); try rfl) (by first | omega | (constructor <;> omega) | assumption | ((repeat rw [x_up_far (by omega)]); first | rfl | omega | (constructor <;> omega)))) (by decide) rfl ⟨rfl, rfl, rfl⟩ ⟨Nat.le_of_ble_eq_true rfl, rfl, rfl⟩ (Nat.le_of_ble_eq_true rfl) rfl ?_
        refine ex_bne rfl (fun h7 => ?_) (fun h7 => ?_)
        · refine ex_st 4 (pc' := 18) (ls' := [(0, xr 143), (1, xi (↑n2)), (2, xi x)]) (st' := [xi 14, xi 10, xi x, xr 143]) rfl ?_
          refine ex_call (ct_m_in (by first | omega | (constructor <;> omega) | assumption) (by first | omega | (constructor <;> omega) | assumption) (by first | omega | (constructor <;> omega) | assumption)) (by decide) rfl ⟨rfl, rfl, rfl⟩ ⟨Nat.le_of_ble_eq_true rfl, rfl, rfl⟩ (Nat.le_of_ble_eq_true rfl) rfl ?_
          refine ex_beq rfl (fun h8 => ?_) (fun h8 => ?_)
          · refine ex_st 4 (pc' := 44) (ls' := [(0, xr 143), (1, xi (↑n2)), (2, xi x)]) (st' := [xi 24, xi 20, xi x, xr 143]) rfl ?_
            refine ex_call (ct_m_in (by first | omega | (constructor <;> omega) | assumption) (by first | omega | (constructor <;> omega) | assumption) (by first | omega | (constructor <;> omega) | assumption)) (by decide) rfl ⟨rfl, rfl, rfl⟩ ⟨Nat.le_of_ble_eq_true rfl, rfl, rfl⟩ (Nat.le_of_ble_eq_true rfl) rfl ?_
            refine ex_beq rfl (fun h9 => ?_) (fun h9 => ?_)
            · refine ex_st 1 (pc' := 61) (ls' := [(0, xr 143), (1, xi (↑n2)), (2, xi x)]) (st' := [xi x]) rfl ?_
              by_cases h10 : (x : Int) = 0
              · exfalso; omega
              by_cases h11 : (x : Int) = 1
              · exfalso; omega
              by_cases h12 : (x : Int) = 2
              · exfalso; omega
              by_cases h13 : (x : Int) = 3
              · exfalso; omega
              refine ex_tsd rfl (by first | omega | (constructor <;> omega) | assumption) (by omega) ?_
              refine ex_st 1 (pc' := 134) (ls' := [(0, xr 143), (1, xi (↑n2)), (2, xi x)]) (st' := [xi (-10001)]) rfl ?_
              refine ex_reti rfl rfl ?_
              exact ⟨x_req (by first | rfl | omega), _, _, rfl, hR⟩
            · exfalso; omega
          · exfalso; omega
        · exfalso; omega
      · exfalso; omega
    · exfalso; omega
  · exfalso; omega
theorem op_of_b {sc : List Int} {I : Nat → Nat → Int} {L : Nat → Nat → Int64} (hR : Rl I L) {t x : Int} (ht : x_R t) (hv : ¬ (0 ≤ t ∧ t < I 1 1)) (hx : x_R x) : x_PQ sc xN_G_of [xr 0, xi t, xi x] xN_m_of [xr 143, xi t, xi x] (xSH, I, L) := by
  obtain ⟨⟨hNs, hNo, hNa, hNb, hNr, hNd, hNg, hNe, hNp, hNk⟩, hI, hT, hX, hC, hH, hQ⟩ := id hR
  have hs := hNs
  unfold RNs at hs
  refine x_CQ.of (M := xM_G_of) rfl (Nat.le_of_ble_eq_true rfl) ?_
  refine ex_st 2 (pc' := 2) (ls' := [(0, xr 0), (1, xi t), (2, xi x)]) (st' := [xi t, xr 0]) rfl ?_
  refine ex_call (ct_G_isOfficial2 (c := I 1 1) (by first | omega | (constructor <;> omega) | assumption | ((repeat rw [x_up_far (by omega)]); first | rfl | omega | (constructor <;> omega))) (by (repeat rw [x_up_far (by omega)]); try rfl) (by first | omega | (constructor <;> omega) | assumption | ((repeat rw [x_up_far (by omega)]); first | rfl | omega | (constructor <;> omega)))) (by decide) rfl ⟨rfl, rfl, rfl⟩ ⟨Nat.le_of_ble_eq_true rfl, rfl, rfl⟩ (Nat.le_of_ble_eq_true rfl) rfl ?_
  refine ex_bne rfl (fun h0 => ?_) (fun h0 => ?_)
  · exfalso; omega
  · refine ex_st 1 (pc' := 11) (ls' := [(0, xr 0), (1, xi t), (2, xi x)]) (st' := [xi (-10001)]) rfl ?_
    refine ex_reti rfl rfl ?_
    refine x_CQ.of (M := xM_m_of) rfl (Nat.le_of_ble_eq_true rfl) ?_
    refine ex_st 2 (pc' := 2) (ls' := [(0, xr 143), (1, xi t), (2, xi x)]) (st' := [xi t, xr 143]) rfl ?_
    refine ex_call (ct_m_isOfficial2 (c := I 143 0) (by first | omega | (constructor <;> omega) | assumption | ((repeat rw [x_up_far (by omega)]); first | rfl | omega | (constructor <;> omega))) (by (repeat rw [x_up_far (by omega)]); try rfl) (by first | omega | (constructor <;> omega) | assumption | ((repeat rw [x_up_far (by omega)]); first | rfl | omega | (constructor <;> omega)))) (by decide) rfl ⟨rfl, rfl, rfl⟩ ⟨Nat.le_of_ble_eq_true rfl, rfl, rfl⟩ (Nat.le_of_ble_eq_true rfl) rfl ?_
    refine ex_bne rfl (fun h1 => ?_) (fun h1 => ?_)
    · exfalso; omega
    · refine ex_st 1 (pc' := 11) (ls' := [(0, xr 143), (1, xi t), (2, xi x)]) (st' := [xi (-10001)]) rfl ?_
      refine ex_reti rfl rfl ?_
      exact ⟨x_req (by first | rfl | omega), _, _, rfl, hR⟩
theorem op_of {sc : List Int} {I : Nat → Nat → Int} {L : Nat → Nat → Int64} (hR : Rl I L) {t x : Int} (ht : x_R t) (hx : x_R x) : x_PQ sc xN_G_of [xr 0, xi t, xi x] xN_m_of [xr 143, xi t, xi x] (xSH, I, L) := by
  by_cases hv : 0 ≤ t ∧ t < I 1 1
  · obtain ⟨n, rfl⟩ := Int.eq_ofNat_of_zero_le hv.1
    by_cases h : ¬ (0 ≤ x ∧ x < 4) ∧ ¬ (10 ≤ x ∧ x < 15) ∧ ¬ (20 ≤ x ∧ x < 25)
    · exact op_of_x hR hv.2 hx h
    · rcases (show x = 0 ∨ x = 1 ∨ x = 2 ∨ x = 3 ∨ x = 10 ∨ x = 11 ∨ x = 12 ∨ x = 13 ∨ x = 14 ∨ x = 20 ∨ x = 21 ∨ x = 22 ∨ x = 23 ∨ x = 24 by omega) with rfl | rfl | rfl | rfl | rfl | rfl | rfl | rfl | rfl | rfl | rfl | rfl | rfl | rfl
      · exact op_of_0 hR hv.2
      · exact op_of_1 hR hv.2
      · exact op_of_2 hR hv.2
      · exact op_of_3 hR hv.2
      · exact op_of_10 hR hv.2
      · exact op_of_11 hR hv.2
      · exact op_of_12 hR hv.2
      · exact op_of_13 hR hv.2
      · exact op_of_14 hR hv.2
      · exact op_of_20 hR hv.2
      · exact op_of_21 hR hv.2
      · exact op_of_22 hR hv.2
      · exact op_of_23 hR hv.2
      · exact op_of_24 hR hv.2
  · exact op_of_b hR ht hv hx
set_option maxRecDepth 8000 in
set_option maxHeartbeats 1000000 in
theorem op_odds_0 {sc : List Int} {I : Nat → Nat → Int} {L : Nat → Nat → Int64} (hR : Rl I L) {p : Nat} (hp : p < 5) : x_PQ sc xN_G_odds [xr 0, xi (↑p), xi 0] xN_m_odds [xr 143, xi (↑p), xi 0] (xSH, I, L) := by
  obtain ⟨⟨hNs, hNo, hNa, hNb, hNr, hNd, hNg, hNe, hNp, hNk⟩, hI, hT, hX, hC, hH, hQ⟩ := id hR
  have hs := hNs
  unfold RNs at hs
  obtain ⟨c, kd, vv, vo, aw, ba, ro, egg, se, hWW, hM⟩ := hR.vw
  have hT2 := hT
  unfold RT at hT2
  obtain ⟨T, nn, cc, cd, we, en, qv, hXt⟩ := RT.tr hT (t := I 143 13) (by omega) (by omega)
  have hX2 := id hXt
  obtain ⟨u1, u2, u3, u4, u5, u6, u7, u8, u9, u10⟩ := hX2
  have hMT := u10 rfl
  obtain ⟨g, hg1, hg, hgs, hgp⟩ := hM.pres
  have hI17 : I 1 7 = I 143 13 := by omega
  have hs64 := sp_mask64 (sp_nz aw) (n := c) (by have := hWW.2.1; omega)
  have hsN : sp_mask (sp_nz aw) c = (((sp_mask (sp_nz aw) c).toNat : Nat) : Int) := by have := (sp_mask_bd (sp_nz aw) c).1; omega
  obtain ⟨hg_1, hg_2, hg_3, hg_4, hg_5, hg_6⟩ := id hNg
  obtain ⟨n, hn⟩ := Int.eq_ofNat_of_zero_le hg_2
  obtain ⟨ag, hag0⟩ : ∃ ag : Nat → Nat, ∀ k, ag k = (I 150 k).toNat := ⟨_, fun _ => rfl⟩
  have hag : ∀ k, k < n → I 150 k = (ag k : Int) ∧ ag k < 5 := fun k hk => by have h1 := hg_5 k (by omega); have h2 := hag0 k; omega
  have hvo : ∀ p, p < c → 0 ≤ vo p ∧ vo p ≤ 9 := fun p hp => (hM.2.2.2.2.2.2.2 p hp).2.2.2.2.2.1
  refine x_CQ.of (M := xM_G_odds) rfl (Nat.le_of_ble_eq_true rfl) ?_
  refine ex_st 1 (pc' := 1) (ls' := [(0, xr 0), (1, xi (↑p)), (2, xi 0)]) (st' := [xi (↑p)]) rfl ?_
  refine ex_call (ct_G_isThing (by first | omega | (constructor <;> omega) | assumption)) (by decide) rfl ⟨rfl, rfl, rfl⟩ ⟨Nat.le_of_ble_eq_true rfl, rfl, rfl⟩ (Nat.le_of_ble_eq_true rfl) rfl ?_
  refine ex_beq rfl (fun h0 => ?_) (fun h0 => ?_)
  · exfalso; omega
  · refine ex_st 1 (pc' := 8) (ls' := [(0, xr 0), (1, xi (↑p)), (2, xi 0)]) (st' := [xi 0]) rfl ?_
    refine ex_call (ct_G_isZeroOrOne (by first | omega | (constructor <;> omega) | assumption)) (by decide) rfl ⟨rfl, rfl, rfl⟩ ⟨Nat.le_of_ble_eq_true rfl, rfl, rfl⟩ (Nat.le_of_ble_eq_true rfl) rfl ?_
    refine ex_bne rfl (fun h1 => ?_) (fun h1 => ?_)
    · refine ex_st 3 (pc' := 23) (ls' := [(0, xr 0), (1, xi (↑p)), (2, xi 0)]) (st' := [xr 1, xr 0]) rfl ?_
      refine ex_callQ (ct_G_ballotOf (L := L) WS.mk1 hWW u2 u3 u4 u5 u6 u7 u8 hI17 u9 u1) (by decide) rfl ⟨rfl, rfl, rfl⟩ ⟨Nat.le_of_ble_eq_true rfl, rfl, rfl⟩ (Nat.le_of_ble_eq_true rfl) rfl (fun ra m2 hQ => ?_)
      obtain ⟨rfl, J, rfl, hJ, hBW, hP, hBM⟩ := hQ
      rw [hsN] at hP
      refine ex_st 1 (pc' := 27) (ls' := [(0, xr 0), (1, xi (↑p)), (2, xi 0)]) (st' := [xi (↑p), xr 92]) rfl ?_
      refine ex_callQ (ct_B_rowsFor hBM (x := ((p : Nat) : Int)) (by constructor <;> omega)) (by decide) rfl ⟨rfl, rfl, rfl⟩ ⟨Nat.le_of_ble_eq_true rfl, rfl, rfl⟩ (Nat.le_of_ble_eq_true rfl) rfl (fun ra m2 hQ => ?_)
      obtain ⟨rfl, J2, rfl, hJ3⟩ := hQ
      have hJ2 : ∀ k j, k < 92 ∨ 103 < k → J2 k j = I k j := fun k j hk => by rw [hJ3 _ _ (by omega), hJ _ _ (by omega)]
      refine ex_st 2 (pc' := 34) (ls' := [(0, xr 0), (1, xi (↑p)), (2, xi 0)]) (st' := [xi 5, xr 1002, xi (↑(sp_rows (sp_bt (sp_lk kd vv ba ro egg se cd we en cc) vo qv c (sp_mask (sp_nz aw) c).toNat) (p : Int) 120))]) rfl ?_
      refine ex_cald (v := 120) (j := 5) rfl (by decide) rfl (by decide) (by decide) (by decide) (rfl) ?_
      refine ex_st 1 (pc' := 36) (ls' := [(0, xr 0), (1, xi (↑p)), (2, xi 0)]) (st' := [xi 0, xi 120, xi (↑(sp_rows (sp_bt (sp_lk kd vv ba ro egg se cd we en cc) vo qv c (sp_mask (sp_nz aw) c).toNat) (p : Int) 120))]) rfl ?_
      refine ex_call (ct_G_fraction0 (x := ((sp_rows (sp_bt (sp_lk kd vv ba ro egg se cd we en cc) vo qv c (sp_mask (sp_nz aw) c).toNat) (p : Int) 120 : Nat) : Int)) (b := 120) (by have := sp_rows_le (sp_bt (sp_lk kd vv ba ro egg se cd we en cc) vo qv c (sp_mask (sp_nz aw) c).toNat) (p : Int) 120; omega) (by decide) (by decide)) (by decide) rfl ⟨rfl, rfl, rfl⟩ ⟨Nat.le_of_ble_eq_true rfl, rfl, rfl⟩ (Nat.le_of_ble_eq_true rfl) rfl ?_
      refine ex_retl rfl rfl ?_
      refine x_CQ.of (M := xM_m_odds) rfl (Nat.le_of_ble_eq_true rfl) ?_
      refine ex_st 2 (pc' := 2) (ls' := [(0, xr 143), (1, xi (↑p)), (2, xi 0)]) (st' := [xi (↑p), xr 143]) rfl ?_
      refine ex_call (ct_m_isThing (by first | omega | (constructor <;> omega) | assumption)) (by decide) rfl ⟨rfl, rfl, rfl⟩ ⟨Nat.le_of_ble_eq_true rfl, rfl, rfl⟩ (Nat.le_of_ble_eq_true rfl) rfl ?_
      refine ex_beq rfl (fun h2 => ?_) (fun h2 => ?_)
      · exfalso; omega
      · refine ex_st 4 (pc' := 12) (ls' := [(0, xr 143), (1, xi (↑p)), (2, xi 0)]) (st' := [xi 1, xi 0, xi 0, xr 143]) rfl ?_
        refine ex_call (ct_m_in (by first | omega | (constructor <;> omega) | assumption) (by first | omega | (constructor <;> omega) | assumption) (by first | omega | (constructor <;> omega) | assumption)) (by decide) rfl ⟨rfl, rfl, rfl⟩ ⟨Nat.le_of_ble_eq_true rfl, rfl, rfl⟩ (Nat.le_of_ble_eq_true rfl) rfl ?_
        refine ex_bne rfl (fun h3 => ?_) (fun h3 => ?_)
        · refine ex_st 1 (pc' := 23) (ls' := [(0, xr 143), (1, xi (↑p)), (2, xi 0)]) (st' := [xr 143]) rfl ?_
          have hMx := hM.fr2 (I' := J2) (fun k j a b => hJ2 k j (by omega))
          have hTx := hMT.fr2 (I' := J2) (fun k j a b => hJ2 k j (by omega))
          have hgx : J2 143 1 = (g : Int) := by rw [hJ2 _ _ (by omega)]; exact hg1
          have hnx : J2 143 2 = (n : Int) := by rw [hJ2 _ _ (by omega)]; exact hn
          have hagx : ∀ k, k < n → J2 150 k = (ag k : Int) ∧ ag k < 5 := fun k hk => by rw [hJ2 _ _ (by omega)]; exact hag k hk
          have hXI : ∀ k j, ¬ (92 ≤ k ∧ k ≤ 103) → J2 k j = I k j := fun k j hk => hJ2 k j (by omega)
          refine ex_callQ (ct_m_layBeats (L := L) hMx hTx hgx hg hgs) (by decide) rfl ⟨rfl, rfl, rfl⟩ ⟨Nat.le_of_ble_eq_true rfl, rfl, rfl⟩ (Nat.le_of_ble_eq_true rfl) rfl (fun ra m2 hQ => ?_)
          obtain ⟨rfl, K, rfl, hBK, hLK, hK⟩ := hQ
          have hKI : ∀ k j, ¬ (92 ≤ k ∧ k ≤ 103) → ¬ x_ms k j → K k j = I k j := fun k j h1 h2 => by rw [hK _ _ (by first | exact h2 | (unfold x_ms at h2; omega)), hXI _ _ h1]
          have hMK := hM.fr2 (I' := K) (fun k j a b => hKI k j (by omega) (by unfold x_ms; omega))
          have hTK := hMT.fr2 (I' := K) (fun k j a b => hKI k j (by omega) (by unfold x_ms; omega))
          have hgK : K 143 1 = (g : Int) := by rw [hKI _ _ (by omega) (by unfold x_ms; omega)]; exact hg1
          refine ex_st 3 (pc' := 29) (ls' := [(0, xr 143), (1, xi (↑p)), (2, xi 0)]) (st' := [xi (↑p), xr 143, xr 143]) rfl ?_
          refine ex_callQ (ct_m_rowsFor (L := L) hBK (x := ((p : Nat) : Int)) (by constructor <;> omega)) (by decide) rfl ⟨rfl, rfl, rfl⟩ ⟨Nat.le_of_ble_eq_true rfl, rfl, rfl⟩ (Nat.le_of_ble_eq_true rfl) rfl (fun ra m2 hQ => ?_)
          obtain ⟨rfl, K2, rfl, hK2⟩ := hQ
          refine ex_st 2 (pc' := 35) (ls' := [(0, xr 143), (1, xi (↑p)), (2, xi 0)]) (st' := [xi 0, xi 120, xi (↑(sp_rows (sp_bt (sp_lk kd vv ba ro egg se cd we en cc) vo qv c (sp_mask (sp_nz aw) c).toNat) (p : Int) 120)), xr 143]) rfl ?_
          refine ex_call (ct_m_lowest0 (x := ((sp_rows (sp_bt (sp_lk kd vv ba ro egg se cd we en cc) vo qv c (sp_mask (sp_nz aw) c).toNat) (p : Int) 120 : Nat) : Int)) (b := 120) (by have := sp_rows_le (sp_bt (sp_lk kd vv ba ro egg se cd we en cc) vo qv c (sp_mask (sp_nz aw) c).toNat) (p : Int) 120; omega) (by decide) (by decide)) (by decide) rfl ⟨rfl, rfl, rfl⟩ ⟨Nat.le_of_ble_eq_true rfl, rfl, rfl⟩ (Nat.le_of_ble_eq_true rfl) rfl ?_
          refine ex_retl rfl rfl ?_
          exact ⟨rfl, _, _, rfl, hR.fr (fun k j hk => by rw [hK2 _ _ (by unfold x_scr at hk; omega)]; exact hKI k j (by unfold x_scr at hk; omega) (by unfold x_scr at hk; unfold x_ms; omega)) (fun _ _ => rfl)⟩
        · exfalso; omega
    · exfalso; omega
set_option maxRecDepth 8000 in
set_option maxHeartbeats 1000000 in
theorem op_odds_1 {sc : List Int} {I : Nat → Nat → Int} {L : Nat → Nat → Int64} (hR : Rl I L) {p : Nat} (hp : p < 5) : x_PQ sc xN_G_odds [xr 0, xi (↑p), xi 1] xN_m_odds [xr 143, xi (↑p), xi 1] (xSH, I, L) := by
  obtain ⟨⟨hNs, hNo, hNa, hNb, hNr, hNd, hNg, hNe, hNp, hNk⟩, hI, hT, hX, hC, hH, hQ⟩ := id hR
  have hs := hNs
  unfold RNs at hs
  obtain ⟨c, kd, vv, vo, aw, ba, ro, egg, se, hWW, hM⟩ := hR.vw
  have hT2 := hT
  unfold RT at hT2
  obtain ⟨T, nn, cc, cd, we, en, qv, hXt⟩ := RT.tr hT (t := I 143 13) (by omega) (by omega)
  have hX2 := id hXt
  obtain ⟨u1, u2, u3, u4, u5, u6, u7, u8, u9, u10⟩ := hX2
  have hMT := u10 rfl
  obtain ⟨g, hg1, hg, hgs, hgp⟩ := hM.pres
  have hI17 : I 1 7 = I 143 13 := by omega
  have hs64 := sp_mask64 (sp_nz aw) (n := c) (by have := hWW.2.1; omega)
  have hsN : sp_mask (sp_nz aw) c = (((sp_mask (sp_nz aw) c).toNat : Nat) : Int) := by have := (sp_mask_bd (sp_nz aw) c).1; omega
  obtain ⟨hg_1, hg_2, hg_3, hg_4, hg_5, hg_6⟩ := id hNg
  obtain ⟨n, hn⟩ := Int.eq_ofNat_of_zero_le hg_2
  obtain ⟨ag, hag0⟩ : ∃ ag : Nat → Nat, ∀ k, ag k = (I 150 k).toNat := ⟨_, fun _ => rfl⟩
  have hag : ∀ k, k < n → I 150 k = (ag k : Int) ∧ ag k < 5 := fun k hk => by have h1 := hg_5 k (by omega); have h2 := hag0 k; omega
  have hvo : ∀ p, p < c → 0 ≤ vo p ∧ vo p ≤ 9 := fun p hp => (hM.2.2.2.2.2.2.2 p hp).2.2.2.2.2.1
  refine x_CQ.of (M := xM_G_odds) rfl (Nat.le_of_ble_eq_true rfl) ?_
  refine ex_st 1 (pc' := 1) (ls' := [(0, xr 0), (1, xi (↑p)), (2, xi 1)]) (st' := [xi (↑p)]) rfl ?_
  refine ex_call (ct_G_isThing (by first | omega | (constructor <;> omega) | assumption)) (by decide) rfl ⟨rfl, rfl, rfl⟩ ⟨Nat.le_of_ble_eq_true rfl, rfl, rfl⟩ (Nat.le_of_ble_eq_true rfl) rfl ?_
  refine ex_beq rfl (fun h0 => ?_) (fun h0 => ?_)
  · exfalso; omega
  · refine ex_st 1 (pc' := 8) (ls' := [(0, xr 0), (1, xi (↑p)), (2, xi 1)]) (st' := [xi 1]) rfl ?_
    refine ex_call (ct_G_isZeroOrOne (by first | omega | (constructor <;> omega) | assumption)) (by decide) rfl ⟨rfl, rfl, rfl⟩ ⟨Nat.le_of_ble_eq_true rfl, rfl, rfl⟩ (Nat.le_of_ble_eq_true rfl) rfl ?_
    refine ex_bne rfl (fun h1 => ?_) (fun h1 => ?_)
    · refine ex_st 3 (pc' := 23) (ls' := [(0, xr 0), (1, xi (↑p)), (2, xi 1)]) (st' := [xr 1, xr 0]) rfl ?_
      refine ex_callQ (ct_G_ballotOf (L := L) WS.mk1 hWW u2 u3 u4 u5 u6 u7 u8 hI17 u9 u1) (by decide) rfl ⟨rfl, rfl, rfl⟩ ⟨Nat.le_of_ble_eq_true rfl, rfl, rfl⟩ (Nat.le_of_ble_eq_true rfl) rfl (fun ra m2 hQ => ?_)
      obtain ⟨rfl, J, rfl, hJ, hBW, hP, hBM⟩ := hQ
      rw [hsN] at hP
      refine ex_st 1 (pc' := 27) (ls' := [(0, xr 0), (1, xi (↑p)), (2, xi 1)]) (st' := [xi (↑p), xr 92]) rfl ?_
      refine ex_callQ (ct_B_rowsFor hBM (x := ((p : Nat) : Int)) (by constructor <;> omega)) (by decide) rfl ⟨rfl, rfl, rfl⟩ ⟨Nat.le_of_ble_eq_true rfl, rfl, rfl⟩ (Nat.le_of_ble_eq_true rfl) rfl (fun ra m2 hQ => ?_)
      obtain ⟨rfl, J2, rfl, hJ3⟩ := hQ
      have hJ2 : ∀ k j, k < 92 ∨ 103 < k → J2 k j = I k j := fun k j hk => by rw [hJ3 _ _ (by omega), hJ _ _ (by omega)]
      refine ex_st 2 (pc' := 34) (ls' := [(0, xr 0), (1, xi (↑p)), (2, xi 1)]) (st' := [xi 5, xr 1002, xi (↑(sp_rows (sp_bt (sp_lk kd vv ba ro egg se cd we en cc) vo qv c (sp_mask (sp_nz aw) c).toNat) (p : Int) 120))]) rfl ?_
      refine ex_cald (v := 120) (j := 5) rfl (by decide) rfl (by decide) (by decide) (by decide) (rfl) ?_
      refine ex_st 1 (pc' := 36) (ls' := [(0, xr 0), (1, xi (↑p)), (2, xi 1)]) (st' := [xi 1, xi 120, xi (↑(sp_rows (sp_bt (sp_lk kd vv ba ro egg se cd we en cc) vo qv c (sp_mask (sp_nz aw) c).toNat) (p : Int) 120))]) rfl ?_
      refine ex_call (ct_G_fraction1 (x := ((sp_rows (sp_bt (sp_lk kd vv ba ro egg se cd we en cc) vo qv c (sp_mask (sp_nz aw) c).toNat) (p : Int) 120 : Nat) : Int)) (b := 120) (by have := sp_rows_le (sp_bt (sp_lk kd vv ba ro egg se cd we en cc) vo qv c (sp_mask (sp_nz aw) c).toNat) (p : Int) 120; omega) (by decide) (by decide)) (by decide) rfl ⟨rfl, rfl, rfl⟩ ⟨Nat.le_of_ble_eq_true rfl, rfl, rfl⟩ (Nat.le_of_ble_eq_true rfl) rfl ?_
      refine ex_retl rfl rfl ?_
      refine x_CQ.of (M := xM_m_odds) rfl (Nat.le_of_ble_eq_true rfl) ?_
      refine ex_st 2 (pc' := 2) (ls' := [(0, xr 143), (1, xi (↑p)), (2, xi 1)]) (st' := [xi (↑p), xr 143]) rfl ?_
      refine ex_call (ct_m_isThing (by first | omega | (constructor <;> omega) | assumption)) (by decide) rfl ⟨rfl, rfl, rfl⟩ ⟨Nat.le_of_ble_eq_true rfl, rfl, rfl⟩ (Nat.le_of_ble_eq_true rfl) rfl ?_
      refine ex_beq rfl (fun h2 => ?_) (fun h2 => ?_)
      · exfalso; omega
      · refine ex_st 4 (pc' := 12) (ls' := [(0, xr 143), (1, xi (↑p)), (2, xi 1)]) (st' := [xi 1, xi 0, xi 1, xr 143]) rfl ?_
        refine ex_call (ct_m_in (by first | omega | (constructor <;> omega) | assumption) (by first | omega | (constructor <;> omega) | assumption) (by first | omega | (constructor <;> omega) | assumption)) (by decide) rfl ⟨rfl, rfl, rfl⟩ ⟨Nat.le_of_ble_eq_true rfl, rfl, rfl⟩ (Nat.le_of_ble_eq_true rfl) rfl ?_
        refine ex_bne rfl (fun h3 => ?_) (fun h3 => ?_)
        · refine ex_st 1 (pc' := 23) (ls' := [(0, xr 143), (1, xi (↑p)), (2, xi 1)]) (st' := [xr 143]) rfl ?_
          have hMx := hM.fr2 (I' := J2) (fun k j a b => hJ2 k j (by omega))
          have hTx := hMT.fr2 (I' := J2) (fun k j a b => hJ2 k j (by omega))
          have hgx : J2 143 1 = (g : Int) := by rw [hJ2 _ _ (by omega)]; exact hg1
          have hnx : J2 143 2 = (n : Int) := by rw [hJ2 _ _ (by omega)]; exact hn
          have hagx : ∀ k, k < n → J2 150 k = (ag k : Int) ∧ ag k < 5 := fun k hk => by rw [hJ2 _ _ (by omega)]; exact hag k hk
          have hXI : ∀ k j, ¬ (92 ≤ k ∧ k ≤ 103) → J2 k j = I k j := fun k j hk => hJ2 k j (by omega)
          refine ex_callQ (ct_m_layBeats (L := L) hMx hTx hgx hg hgs) (by decide) rfl ⟨rfl, rfl, rfl⟩ ⟨Nat.le_of_ble_eq_true rfl, rfl, rfl⟩ (Nat.le_of_ble_eq_true rfl) rfl (fun ra m2 hQ => ?_)
          obtain ⟨rfl, K, rfl, hBK, hLK, hK⟩ := hQ
          have hKI : ∀ k j, ¬ (92 ≤ k ∧ k ≤ 103) → ¬ x_ms k j → K k j = I k j := fun k j h1 h2 => by rw [hK _ _ (by first | exact h2 | (unfold x_ms at h2; omega)), hXI _ _ h1]
          have hMK := hM.fr2 (I' := K) (fun k j a b => hKI k j (by omega) (by unfold x_ms; omega))
          have hTK := hMT.fr2 (I' := K) (fun k j a b => hKI k j (by omega) (by unfold x_ms; omega))
          have hgK : K 143 1 = (g : Int) := by rw [hKI _ _ (by omega) (by unfold x_ms; omega)]; exact hg1
          refine ex_st 3 (pc' := 29) (ls' := [(0, xr 143), (1, xi (↑p)), (2, xi 1)]) (st' := [xi (↑p), xr 143, xr 143]) rfl ?_
          refine ex_callQ (ct_m_rowsFor (L := L) hBK (x := ((p : Nat) : Int)) (by constructor <;> omega)) (by decide) rfl ⟨rfl, rfl, rfl⟩ ⟨Nat.le_of_ble_eq_true rfl, rfl, rfl⟩ (Nat.le_of_ble_eq_true rfl) rfl (fun ra m2 hQ => ?_)
          obtain ⟨rfl, K2, rfl, hK2⟩ := hQ
          refine ex_st 2 (pc' := 35) (ls' := [(0, xr 143), (1, xi (↑p)), (2, xi 1)]) (st' := [xi 1, xi 120, xi (↑(sp_rows (sp_bt (sp_lk kd vv ba ro egg se cd we en cc) vo qv c (sp_mask (sp_nz aw) c).toNat) (p : Int) 120)), xr 143]) rfl ?_
          refine ex_call (ct_m_lowest1 (x := ((sp_rows (sp_bt (sp_lk kd vv ba ro egg se cd we en cc) vo qv c (sp_mask (sp_nz aw) c).toNat) (p : Int) 120 : Nat) : Int)) (b := 120) (by have := sp_rows_le (sp_bt (sp_lk kd vv ba ro egg se cd we en cc) vo qv c (sp_mask (sp_nz aw) c).toNat) (p : Int) 120; omega) (by decide) (by decide)) (by decide) rfl ⟨rfl, rfl, rfl⟩ ⟨Nat.le_of_ble_eq_true rfl, rfl, rfl⟩ (Nat.le_of_ble_eq_true rfl) rfl ?_
          refine ex_retl rfl rfl ?_
          exact ⟨rfl, _, _, rfl, hR.fr (fun k j hk => by rw [hK2 _ _ (by unfold x_scr at hk; omega)]; exact hKI k j (by unfold x_scr at hk; omega) (by unfold x_scr at hk; unfold x_ms; omega)) (fun _ _ => rfl)⟩
        · exfalso; omega
    · exfalso; omega
theorem op_odds_x {sc : List Int} {I : Nat → Nat → Int} {L : Nat → Nat → Int64} (hR : Rl I L) {x w : Int} (hx : x_R x) (hw : x_R w) (h : ¬ ((0 ≤ x ∧ x < 5) ∧ (w = 0 ∨ w = 1))) : x_PQ sc xN_G_odds [xr 0, xi x, xi w] xN_m_odds [xr 143, xi x, xi w] (xSH, I, L) := by
  obtain ⟨⟨hNs, hNo, hNa, hNb, hNr, hNd, hNg, hNe, hNp, hNk⟩, hI, hT, hX, hC, hH, hQ⟩ := id hR
  have hs := hNs
  unfold RNs at hs
  refine x_CQ.of (M := xM_G_odds) rfl (Nat.le_of_ble_eq_true rfl) ?_
  refine ex_st 1 (pc' := 1) (ls' := [(0, xr 0), (1, xi x), (2, xi w)]) (st' := [xi x]) rfl ?_
  refine ex_call (ct_G_isThing (by first | omega | (constructor <;> omega) | assumption)) (by decide) rfl ⟨rfl, rfl, rfl⟩ ⟨Nat.le_of_ble_eq_true rfl, rfl, rfl⟩ (Nat.le_of_ble_eq_true rfl) rfl ?_
  refine ex_beq rfl (fun h0 => ?_) (fun h0 => ?_)
  · refine ex_st 1 (pc' := 17) (ls' := [(0, xr 0), (1, xi x), (2, xi w)]) (st' := [xl (Int64.ofInt (-9223372036854775808))]) rfl ?_
    refine ex_retl rfl rfl ?_
    refine x_CQ.of (M := xM_m_odds) rfl (Nat.le_of_ble_eq_true rfl) ?_
    refine ex_st 2 (pc' := 2) (ls' := [(0, xr 143), (1, xi x), (2, xi w)]) (st' := [xi x, xr 143]) rfl ?_
    refine ex_call (ct_m_isThing (by first | omega | (constructor <;> omega) | assumption)) (by decide) rfl ⟨rfl, rfl, rfl⟩ ⟨Nat.le_of_ble_eq_true rfl, rfl, rfl⟩ (Nat.le_of_ble_eq_true rfl) rfl ?_
    refine ex_beq rfl (fun h1 => ?_) (fun h1 => ?_)
    · refine ex_st 1 (pc' := 21) (ls' := [(0, xr 143), (1, xi x), (2, xi w)]) (st' := [xl (Int64.ofInt (-9223372036854775808))]) rfl ?_
      refine ex_retl rfl rfl ?_
      exact ⟨rfl, _, _, rfl, hR⟩
    · exfalso; omega
  · refine ex_st 1 (pc' := 8) (ls' := [(0, xr 0), (1, xi x), (2, xi w)]) (st' := [xi w]) rfl ?_
    refine ex_call (ct_G_isZeroOrOne (by first | omega | (constructor <;> omega) | assumption)) (by decide) rfl ⟨rfl, rfl, rfl⟩ ⟨Nat.le_of_ble_eq_true rfl, rfl, rfl⟩ (Nat.le_of_ble_eq_true rfl) rfl ?_
    refine ex_bne rfl (fun h2 => ?_) (fun h2 => ?_)
    · exfalso; omega
    · refine ex_st 1 (pc' := 17) (ls' := [(0, xr 0), (1, xi x), (2, xi w)]) (st' := [xl (Int64.ofInt (-9223372036854775808))]) rfl ?_
      refine ex_retl rfl rfl ?_
      refine x_CQ.of (M := xM_m_odds) rfl (Nat.le_of_ble_eq_true rfl) ?_
      refine ex_st 2 (pc' := 2) (ls' := [(0, xr 143), (1, xi x), (2, xi w)]) (st' := [xi x, xr 143]) rfl ?_
      refine ex_call (ct_m_isThing (by first | omega | (constructor <;> omega) | assumption)) (by decide) rfl ⟨rfl, rfl, rfl⟩ ⟨Nat.le_of_ble_eq_true rfl, rfl, rfl⟩ (Nat.le_of_ble_eq_true rfl) rfl ?_
      refine ex_beq rfl (fun h3 => ?_) (fun h3 => ?_)
      · exfalso; omega
      · refine ex_st 4 (pc' := 12) (ls' := [(0, xr 143), (1, xi x), (2, xi w)]) (st' := [xi 1, xi 0, xi w, xr 143]) rfl ?_
        refine ex_call (ct_m_in (by first | omega | (constructor <;> omega) | assumption) (by first | omega | (constructor <;> omega) | assumption) (by first | omega | (constructor <;> omega) | assumption)) (by decide) rfl ⟨rfl, rfl, rfl⟩ ⟨Nat.le_of_ble_eq_true rfl, rfl, rfl⟩ (Nat.le_of_ble_eq_true rfl) rfl ?_
        refine ex_bne rfl (fun h4 => ?_) (fun h4 => ?_)
        · exfalso; omega
        · refine ex_st 1 (pc' := 21) (ls' := [(0, xr 143), (1, xi x), (2, xi w)]) (st' := [xl (Int64.ofInt (-9223372036854775808))]) rfl ?_
          refine ex_retl rfl rfl ?_
          exact ⟨rfl, _, _, rfl, hR⟩
theorem op_odds {sc : List Int} {I : Nat → Nat → Int} {L : Nat → Nat → Int64} (hR : Rl I L) {x w : Int} (hx : x_R x) (hw : x_R w) : x_PQ sc xN_G_odds [xr 0, xi x, xi w] xN_m_odds [xr 143, xi x, xi w] (xSH, I, L) := by
  by_cases h : (0 ≤ x ∧ x < 5) ∧ (w = 0 ∨ w = 1)
  · obtain ⟨⟨h1, h2⟩, h3⟩ := h
    obtain ⟨p, rfl⟩ := Int.eq_ofNat_of_zero_le h1
    rcases h3 with rfl | rfl
    · exact op_odds_0 hR (by omega)
    · exact op_odds_1 hR (by omega)
  · exact op_odds_x hR hx hw h
