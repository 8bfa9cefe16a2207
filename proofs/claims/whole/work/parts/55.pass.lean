/-! pair of calls: pass -/
set_option maxRecDepth 8000 in
set_option maxHeartbeats 2000000 in
theorem op_pass {sc : List Int} {I : Nat → Nat → Int} {L : Nat → Nat → Int64} (hR : Rl I L) {x : Int} (hx : x_R x) : x_PQ sc xN_G_pass [xr 0, xi x] xN_m_pass [xr 143, xi x] (xSH, I, L) := by
  obtain ⟨⟨hNs, hNo, hNa, hNb, hNr, hNd, hNg, hNe, hNp, hNk⟩, hI, hT, hX, hC, hH, hQ⟩ := id hR
  have hs := hNs
  unfold RNs at hs
  obtain ⟨c, kd, vv, vo, aw, ba, ro, egg, se, hWW, hM⟩ := hR.vw
  have hT2 := hT
  unfold RT at hT2
  obtain ⟨T, nn, cc, cd, we, en, qv, hXt⟩ := RT.tr hT (t := I 143 13) (by omega) (by omega)
  have hX2 := id hXt
  obtain ⟨u1, u2, u3, u4, u5, u6, u7, u8, u9, u10⟩ := hX2
  have hMT := u10 rfl
  obtain ⟨g, hg1, hg, hgs, hgp⟩ := hM.pres
  have hI17 : I 1 7 = I 143 13 := by omega
  have hs64 := sp_mask64 (sp_nz aw) (n := c) (by have := hWW.2.1; omega)
  have hsN : sp_mask (sp_nz aw) c = (((sp_mask (sp_nz aw) c).toNat : Nat) : Int) := by have := (sp_mask_bd (sp_nz aw) c).1; omega
  obtain ⟨hg_1, hg_2, hg_3, hg_4, hg_5, hg_6⟩ := id hNg
  obtain ⟨n, hn⟩ := Int.eq_ofNat_of_zero_le hg_2
  obtain ⟨ag, hag0⟩ : ∃ ag : Nat → Nat, ∀ k, ag k = (I 150 k).toNat := ⟨_, fun _ => rfl⟩
  have hag : ∀ k, k < n → I 150 k = (ag k : Int) ∧ ag k < 5 := fun k hk => by have h1 := hg_5 k (by omega); have h2 := hag0 k; omega
  have hvo : ∀ p, p < c → 0 ≤ vo p ∧ vo p ≤ 9 := fun p hp => (hM.2.2.2.2.2.2.2 p hp).2.2.2.2.2.1
  obtain ⟨s0, hs0⟩ : ∃ s0 : St4, s0 = (aw, egg, se, fun x => I 149 x) := ⟨_, rfl⟩
  have hSW0 : SW I 1 c kd vv vo ba ro s0 := by subst hs0; exact ⟨hWW, fun x hx => (hNd x hx).1⟩
  have hSM0 : SM I c kd vv vo ba ro s0 := by subst hs0; exact ⟨hM, fun x hx => rfl⟩
  have hegg := hM.2.2.1
  have hse0 := hM.2.2.2.2.1
  have hSI0 : SI s0 := by subst hs0; exact ⟨fun x hx => by have := hNd x hx; show 0 ≤ I 149 x ∧ I 149 x ≤ (se : Int); omega, by show 0 ≤ egg; omega, by show egg ≤ 9; omega⟩
  have hs0e : s0.2.2.1 = se := by subst hs0; rfl
  have hn5 : n ≤ 5 := by omega
  have hag1 : ∀ k, k < n → I 4 k = (ag k : Int) ∧ ag k < 5 := fun k hk => by rw [hg_4 k (by omega)]; exact hag k hk
  have hn1 : I 1 4 = (n : Int) := by omega
  by_cases hv : 0 ≤ x ∧ x ≤ 60
  · obtain ⟨u, rfl⟩ := Int.eq_ofNat_of_zero_le hv.1
    refine x_CQ.of (M := xM_G_pass) rfl (Nat.le_of_ble_eq_true rfl) ?_
    refine ex_st 1 (pc' := 1) (ls' := [(0, xr 0), (1, xi (↑u))]) (st' := [xi (↑u)]) rfl ?_
    refine ex_if rfl (by first | omega | (constructor <;> omega) | assumption) (fun (h0 : (↑u : Int) < 0) => ?_) (fun (h0 : ¬ (↑u : Int) < 0) => ?_)
    · exfalso; omega
    · refine ex_st 2 (pc' := 7) (ls' := [(0, xr 0), (1, xi (↑u))]) (st' := [xi 60, xi (↑u)]) rfl ?_
      refine ex_ic rfl (by first | omega | (constructor <;> omega) | assumption) (by decide) (fun (h1 : (↑u : Int) ≤ 60) => ?_) (fun (h1 : ¬ (↑u : Int) ≤ 60) => ?_)
      · refine ex_st 3 (pc' := 20) (ls' := [(0, xr 0), (1, xi (↑u))]) (st' := [xi (I 1 6)]) rfl ?_
        rw [(show I 1 6 = (se : Int) by omega)]
        refine ex_st 3 (pc' := 25) (ls' := [(0, xr 0), (1, xi (↑u))]) (st' := [xi 9999, xi (((se : Int)) + (↑u))]) rfl ?_
        refine ex_ic rfl (by first | omega | (constructor <;> omega) | assumption) (by decide) (fun (h2 : (((se : Int)) + (↑u)) ≤ 9999) => ?_) (fun (h2 : ¬ (((se : Int)) + (↑u)) ≤ 9999) => ?_)
        · refine ex_st 2 (pc' := 33) (ls' := [(2, xi 0), (0, xr 0), (1, xi (↑u))]) (st' := []) rfl ?_
          refine lp_Gpass (L := L) (u := u) (by omega) 0 (Nat.zero_le _) s0 I hSW0 hSI0 (by omega) hXt hI17 hn1 hn5 hag1 (fun J hSJ hJ => ?_)
          rw [show u - 0 = u from rfl] at hSJ
          have hJ6 : J 1 6 = ((se + u : Nat) : Int) := by rw [hSJ.1.2.2.2.2.1, sp_it_se, hs0e]
          refine ex_st 3 (pc' := 59) (ls' := [(2, xi (↑u)), (0, xr 0), (1, xi (↑u))]) (st' := [xi (J 1 6)]) rfl ?_
          rw [hJ6]
          refine ex_reti rfl rfl ?_
          refine x_CQ.of (M := xM_m_pass) rfl (Nat.le_of_ble_eq_true rfl) ?_
          refine ex_st 2 (pc' := 2) (ls' := [(0, xr 143), (1, xi (↑u))]) (st' := [xi (↑u), xr 143]) rfl ?_
          refine ex_call (ct_m_isSessions (by first | omega | (constructor <;> omega) | assumption)) (by decide) rfl ⟨rfl, rfl, rfl⟩ ⟨Nat.le_of_ble_eq_true rfl, rfl, rfl⟩ (Nat.le_of_ble_eq_true rfl) rfl ?_
          refine ex_bne rfl (fun h3 => ?_) (fun h3 => ?_)
          · refine ex_st 2 (pc' := 15) (ls' := [(0, xr 143), (1, xi (↑u))]) (st' := [xi (J 143 4)]) rfl ?_
            rw [(hJ _ _ (by unfold GFW; omega) : J 143 4 = I 143 4), hse0]
            refine ex_st 3 (pc' := 20) (ls' := [(0, xr 143), (1, xi (↑u))]) (st' := [xi 9999, xi (((se : Int)) + (↑u))]) rfl ?_
            refine ex_ic rfl (by first | omega | (constructor <;> omega) | assumption) (by decide) (fun (h4 : (((se : Int)) + (↑u)) ≤ 9999) => ?_) (fun (h4 : ¬ (((se : Int)) + (↑u)) ≤ 9999) => ?_)
            · refine ex_st 2 (pc' := 28) (ls' := [(0, xr 143), (1, xi (↑u))]) (st' := [xi (↑u), xr 143]) rfl ?_
              have hSMJ : SM J c kd vv vo ba ro s0 := ⟨hSM0.1.fr2 (fun k j a b => hJ k j (by unfold GFW; omega)), fun x hx => by rw [hJ _ _ (by unfold GFW; omega)]; exact hSM0.2 x hx⟩
              have hTJ := hMT.fr2 (I' := J) (fun k j a b => hJ k j (by unfold GFW; omega))
              refine ex_callQ (ct_m_goSessions (L := L) hSMJ hSI0 (u := u) (by omega) (by omega) hTJ (by rw [hJ _ _ (by unfold GFW; omega)]; exact hn) hn5 (fun k hk => by rw [hJ _ _ (by unfold GFW; omega)]; exact hag k hk) (md := 9999) (by rw [hJ _ _ (by unfold GFW; omega)]; exact hH.2.2.1) (by decide) (by omega)) (by decide) rfl ⟨rfl, rfl, rfl⟩ ⟨Nat.le_of_ble_eq_true rfl, rfl, rfl⟩ (Nat.le_of_ble_eq_true rfl) rfl (fun ra m2 hQ => ?_)
              obtain ⟨rfl, K, rfl, hSK, hK⟩ := hQ
              have hK4 : K 143 4 = ((se + u : Nat) : Int) := by rw [hSK.1.2.2.2.2.1, sp_it_se, hs0e]
              refine ex_st 2 (pc' := 35) (ls' := [(0, xr 143), (1, xi (↑u))]) (st' := [xi (K 143 4)]) rfl ?_
              rw [hK4]
              refine ex_reti rfl rfl ?_
              have hSIf := SI.it (D := (sp_D kd vv vo ba ro cd we en cc qv c n ag)) u hSI0
              have a5 : K 1 5 = (sp_it (sp_D kd vv vo ba ro cd we en cc qv c n ag) u s0).2.1 := by rw [hK _ _ (by unfold GFM; omega)]; exact hSJ.1.2.2.1
              have a3 : K 143 3 = (sp_it (sp_D kd vv vo ba ro cd we en cc qv c n ag) u s0).2.1 := hSK.1.2.2.1
              have a6 : K 1 6 = ((se + u : Nat) : Int) := by rw [hK _ _ (by unfold GFM; omega)]; exact hJ6
              have hss : (sp_it (sp_D kd vv vo ba ro cd we en cc qv c n ag) u s0).2.2.1 = se + u := by rw [sp_it_se, hs0e]
              exact ⟨x_req (by first | rfl | omega), K, _, rfl, hR.setS (fun k j hk => by unfold x_scr at hk; rw [hK _ _ (by unfold GFM; omega), hJ _ _ (by unfold GFW; omega)]) ⟨by omega, by have := hSIf.2; omega, by have := hSIf.2; omega⟩ ⟨by omega, by omega, by omega⟩ (fun x hx => by rw [hK 3 _ (by unfold GFM; omega), hSJ.2 x hx, hSK.2 x hx, hK4]; have := hSIf.1 x hx; rw [hss] at this; omega)⟩
            · exfalso; omega
          · exfalso; omega
        · refine ex_st 1 (pc' := 30) (ls' := [(0, xr 0), (1, xi (↑u))]) (st' := [xi (-3)]) rfl ?_
          refine ex_reti rfl rfl ?_
          refine x_CQ.of (M := xM_m_pass) rfl (Nat.le_of_ble_eq_true rfl) ?_
          refine ex_st 2 (pc' := 2) (ls' := [(0, xr 143), (1, xi (↑u))]) (st' := [xi (↑u), xr 143]) rfl ?_
          refine ex_call (ct_m_isSessions (by first | omega | (constructor <;> omega) | assumption)) (by decide) rfl ⟨rfl, rfl, rfl⟩ ⟨Nat.le_of_ble_eq_true rfl, rfl, rfl⟩ (Nat.le_of_ble_eq_true rfl) rfl ?_
          refine ex_bne rfl (fun h5 => ?_) (fun h5 => ?_)
          · refine ex_st 2 (pc' := 15) (ls' := [(0, xr 143), (1, xi (↑u))]) (st' := [xi (I 143 4)]) rfl ?_
            rw [hse0]
            refine ex_st 3 (pc' := 20) (ls' := [(0, xr 143), (1, xi (↑u))]) (st' := [xi 9999, xi (((se : Int)) + (↑u))]) rfl ?_
            refine ex_ic rfl (by first | omega | (constructor <;> omega) | assumption) (by decide) (fun (h6 : (((se : Int)) + (↑u)) ≤ 9999) => ?_) (fun (h6 : ¬ (((se : Int)) + (↑u)) ≤ 9999) => ?_)
            · exfalso; omega
            · refine ex_st 1 (pc' := 25) (ls' := [(0, xr 143), (1, xi (↑u))]) (st' := [xi (-3)]) rfl ?_
              refine ex_reti rfl rfl ?_
              exact ⟨x_req (by first | rfl | omega), _, _, rfl, hR⟩
          · exfalso; omega
      · exfalso; omega
  refine x_CQ.of (M := xM_G_pass) rfl (Nat.le_of_ble_eq_true rfl) ?_
  refine ex_st 1 (pc' := 1) (ls' := [(0, xr 0), (1, xi x)]) (st' := [xi x]) rfl ?_
  refine ex_if rfl (by first | omega | (constructor <;> omega) | assumption) (fun (h0 : x < 0) => ?_) (fun (h0 : ¬ x < 0) => ?_)
  · refine ex_st 1 (pc' := 12) (ls' := [(0, xr 0), (1, xi x)]) (st' := [xi (-2)]) rfl ?_
    refine ex_reti rfl rfl ?_
    refine x_CQ.of (M := xM_m_pass) rfl (Nat.le_of_ble_eq_true rfl) ?_
    refine ex_st 2 (pc' := 2) (ls' := [(0, xr 143), (1, xi x)]) (st' := [xi x, xr 143]) rfl ?_
    refine ex_call (ct_m_isSessions (by first | omega | (constructor <;> omega) | assumption)) (by decide) rfl ⟨rfl, rfl, rfl⟩ ⟨Nat.le_of_ble_eq_true rfl, rfl, rfl⟩ (Nat.le_of_ble_eq_true rfl) rfl ?_
    refine ex_bne rfl (fun h1 => ?_) (fun h1 => ?_)
    · exfalso; omega
    · refine ex_st 1 (pc' := 10) (ls' := [(0, xr 143), (1, xi x)]) (st' := [xi (-2)]) rfl ?_
      refine ex_reti rfl rfl ?_
      exact ⟨x_req (by first | rfl | omega), _, _, rfl, hR⟩
  · refine ex_st 2 (pc' := 7) (ls' := [(0, xr 0), (1, xi x)]) (st' := [xi 60, xi x]) rfl ?_
    refine ex_ic rfl (by first | omega | (constructor <;> omega) | assumption) (by decide) (fun (h2 : x ≤ 60) => ?_) (fun (h2 : ¬ x ≤ 60) => ?_)
    · exfalso; omega
    · refine ex_st 1 (pc' := 12) (ls' := [(0, xr 0), (1, xi x)]) (st' := [xi (-2)]) rfl ?_
      refine ex_reti rfl rfl ?_
      refine x_CQ.of (M := xM_m_pass) rfl (Nat.le_of_ble_eq_true rfl) ?_
      refine ex_st 2 (pc' := 2) (ls' := [(0, xr 143), (1, xi x)]) (st' := [xi x, xr 143]) rfl ?_
      refine ex_call (ct_m_isSessions (by first | omega | (constructor <;> omega) | assumption)) (by decide) rfl ⟨rfl, rfl, rfl⟩ ⟨Nat.le_of_ble_eq_true rfl, rfl, rfl⟩ (Nat.le_of_ble_eq_true rfl) rfl ?_
      refine ex_bne rfl (fun h3 => ?_) (fun h3 => ?_)
      · exfalso; omega
      · refine ex_st 1 (pc' := 10) (ls' := [(0, xr 143), (1, xi x)]) (st' := [xi (-2)]) rfl ?_
        refine ex_reti rfl rfl ?_
        exact ⟨x_req (by first | rfl | omega), _, _, rfl, hR⟩
