/-! pairs of calls: told, against -/
theorem MW.fr2 {I I' : Nat → Nat → Int} {c : Nat} {kd : Nat → Nat} {vv vo aw : Nat → Int} {ba ro : Nat → Nat → Int} {egg : Int} {se : Nat} (h : MW I c kd vv vo aw ba ro egg se) (e : ∀ k j, 143 ≤ k → k ≤ 157 → I' k j = I k j) : MW I' c kd vv vo aw ba ro egg se := by
  obtain ⟨h1, h2, h3, h4, h5, h6, h7, h8⟩ := h
  refine ⟨by rw [e _ _ (by decide) (by decide)]; exact h1, h2, by rw [e _ _ (by decide) (by decide)]; exact h3, h4, by rw [e _ _ (by decide) (by decide)]; exact h5, h6, by rw [e _ _ (by decide) (by decide)]; exact h7, fun p hp => ?_⟩
  obtain ⟨g1, g2, g3, g4, g5, g6, g7, g8⟩ := h8 p hp
  exact ⟨by rw [e _ _ (by decide) (by decide)]; exact g1, g2, by rw [e _ _ (by decide) (by decide)]; exact g3, g4, by rw [e _ _ (by decide) (by decide)]; exact g5, g6, fun x hx => by rw [e _ _ (by decide) (by decide)]; exact g7 x hx, fun j hj => by rw [e _ _ (by decide) (by decide)]; exact g8 j hj⟩
theorem MT.fr2 {I I' : Nat → Nat → Int} {cc : Nat} {cd we : Nat → Int} {en : Nat → Nat} {qv : Int} (h : MT I cc cd we en qv) (e : ∀ k j, 143 ≤ k → k ≤ 157 → I' k j = I k j) : MT I' cc cd we en qv := by
  have e13 : I' 143 13 = I 143 13 := e _ _ (by decide) (by decide)
  have e152 : ∀ j, I' 152 j = I 152 j := fun j => e _ _ (by decide) (by decide)
  have e153 : ∀ j, I' 153 j = I 153 j := fun j => e _ _ (by decide) (by decide)
  have e154 : ∀ j, I' 154 j = I 154 j := fun j => e _ _ (by decide) (by decide)
  have e155 : ∀ j, I' 155 j = I 155 j := fun j => e _ _ (by decide) (by decide)
  have e156 : ∀ j, I' 156 j = I 156 j := fun j => e _ _ (by decide) (by decide)
  have e157 : ∀ j, I' 157 j = I 157 j := fun j => e _ _ (by decide) (by decide)
  unfold MT MC at *
  simp only [e13, e152, e153, e154, e155, e156, e157]
  exact h
theorem ct_G_doneByAgendaOf {sc : List Int} {I : Nat → Nat → Int} {L : Nat → Nat → Int64} {W c : Nat} {kd : Nat → Nat} {vv vo aw : Nat → Int} {ba ro : Nat → Nat → Int} {egg : Int} {se : Nat} (hWS : WS W) (hWW : WW I W c kd vv vo aw ba ro egg se) {t : Int} {T nn cc : Nat} {cd we : Nat → Int} {en : Nat → Nat} {qv : Int} (hX : TRx I t T nn cc cd we en qv) (ht : I W 7 = t) (hW3 : xSH[W + 3]? = some (20, 5, [])) {n : Nat} {ag : Nat → Nat} (hn : I W 4 = (n : Int)) (hn5 : n ≤ 5) (hag : ∀ k, k < n → I (W + 3) k = (ag k : Int) ∧ ag k < 5) : x_CQ sc 6 xN_G_doneByAgendaOf [xr 0, xr W] (xSH, I, L) (fun r m' => r = some (xi (if n = 0 then -5 else ((sp_dn (sp_bt (sp_lk kd vv ba ro egg se cd we en cc) vo qv c (sp_mask (sp_nz aw) c).toNat) ag (n - 1) : Nat) : Int))) ∧ ∃ J, m' = (xSH, J, L) ∧ ∀ k j, k < 92 ∨ 102 < k → J k j = I k j) := by
  have hlt := hWS.2.2.2
  obtain ⟨u1, u2, u3, u4, u5, u6, u7, u8, u9, u10⟩ := hX
  refine x_CQ.of (M := xM_G_doneByAgendaOf) rfl (Nat.le_of_ble_eq_true rfl) ?_
  refine ex_st 2 (pc' := 2) (ls' := [(0, xr 0), (1, xr W)]) (st' := [xr W, xr 0]) rfl ?_
  refine ex_callQ (ct_G_ballotOf (L := L) hWS hWW u2 u3 u4 u5 u6 u7 u8 ht u9 u1) (by decide) rfl ⟨rfl, rfl, rfl⟩ ⟨Nat.le_of_ble_eq_true rfl, rfl, rfl⟩ (Nat.le_of_ble_eq_true rfl) rfl (fun ra m2 hQ => ?_)
  obtain ⟨rfl, J, rfl, hJ, hBW, hP, hBM⟩ := hQ
  refine ex_st 1 (pc' := 6) (ls' := [(0, xr 0), (1, xr W)]) (st' := [xr W, xr 92]) rfl ?_
  refine ex_gfr rfl (by omega) hWS.1 (by decide) (by decide) rfl ?_
  refine ex_st 1 (pc' := 10) (ls' := [(0, xr 0), (1, xr W)]) (st' := [xr W, xr (W + 3), xr 92]) rfl ?_
  refine ex_gfi rfl (by omega) hWS.1 (by decide) (by decide) rfl ?_
  rw [hJ _ _ (by omega), hn]
  refine ex_call (ct_B_doneBy hBM (k := W + 3) (by omega) hW3 hn5 (fun i hi => by rw [hJ _ _ (by omega)]; exact hag i hi)) (by decide) rfl ⟨rfl, rfl, rfl⟩ ⟨Nat.le_of_ble_eq_true rfl, rfl, rfl⟩ (Nat.le_of_ble_eq_true rfl) rfl ?_
  refine ex_reti rfl rfl ?_
  exact ⟨rfl, J, rfl, hJ⟩
theorem ct_m_rings {sc : List Int} {I : Nat → Nat → Int} {L : Nat → Nat → Int64} {c : Nat} {kd : Nat → Nat} {vv vo aw : Nat → Int} {ba ro : Nat → Nat → Int} {egg : Int} {se : Nat} (hM : MW I c kd vv vo aw ba ro egg se) {cc : Nat} {cd we : Nat → Int} {en : Nat → Nat} {qv : Int} (hT : MT I cc cd we en qv) {g s : Nat} (hg1 : I 143 1 = (g : Int)) (hg : g < 64) (hs : ∀ p, p < c → s.testBit p = !g.testBit p) : x_CQ sc 7 xN_m_rings [xr 143] (xSH, I, L) (fun r m' => r = some (xi ((sp_r1 (sp_bt (sp_lk kd vv ba ro egg se cd we en cc) vo qv c s) 5 : Nat) : Int)) ∧ ∃ I', m' = (xSH, I', L) ∧ ∀ k j, ¬ (160 ≤ k ∧ k ≤ 162) → I' k j = I k j) := by
  refine x_CQ.of (M := xM_m_rings) rfl (Nat.le_of_ble_eq_true rfl) ?_
  refine ex_st 1 (pc' := 1) (ls' := [(0, xr 143)]) (st' := [xr 143]) rfl ?_
  refine ex_callQ (ct_m_layBeats hM hT hg1 hg hs) (by decide) rfl ⟨rfl, rfl, rfl⟩ ⟨Nat.le_of_ble_eq_true rfl, rfl, rfl⟩ (Nat.le_of_ble_eq_true rfl) rfl (fun ra m2 hQ => ?_)
  obtain ⟨rfl, I1, rfl, hB, hL, hF⟩ := hQ
  refine ex_st 4 (pc' := 8) (ls' := [(2, xi 0), (1, xi 0), (0, xr 143)]) (st' := []) rfl ?_
  refine ex_pm [(1, xi 0), (2, xi 0), (0, xr 143)] (fun i => by rcases i with _ | _ | _ | _ | _ | _ | _ | _ | _ | i <;> first | (right; rfl) | (left; rfl)) ?_
  refine x_Ex.mono (lp_mr1 hB 0 (by decide) 0) (fun r m' h => ?_)
  exact ⟨by rw [h.1, Nat.zero_add], I1, h.2, hF⟩
theorem ct_m_lastSet {sc : List Int} {I : Nat → Nat → Int} {L : Nat → Nat → Int64} {c : Nat} {kd : Nat → Nat} {vv vo aw : Nat → Int} {ba ro : Nat → Nat → Int} {egg : Int} {se : Nat} (hM : MW I c kd vv vo aw ba ro egg se) {cc : Nat} {cd we : Nat → Int} {en : Nat → Nat} {qv : Int} (hT : MT I cc cd we en qv) {g s : Nat} (hg1 : I 143 1 = (g : Int)) (hg : g < 64) (hs : ∀ p, p < c → s.testBit p = !g.testBit p) : x_CQ sc 7 xN_m_lastSet [xr 143] (xSH, I, L) (fun r m' => r = some (xi (sp_mask (sp_never (sp_bt (sp_lk kd vv ba ro egg se cd we en cc) vo qv c s)) 5)) ∧ ∃ I', m' = (xSH, I', L) ∧ ∀ k j, ¬ x_ms k j → I' k j = I k j) := by
  refine x_CQ.of (M := xM_m_lastSet) rfl (Nat.le_of_ble_eq_true rfl) ?_
  refine ex_st 1 (pc' := 1) (ls' := [(0, xr 143)]) (st' := [xr 143]) rfl ?_
  refine ex_callQ (ct_m_layBeats hM hT hg1 hg hs) (by decide) rfl ⟨rfl, rfl, rfl⟩ ⟨Nat.le_of_ble_eq_true rfl, rfl, rfl⟩ (Nat.le_of_ble_eq_true rfl) rfl (fun ra m2 hQ => ?_)
  obtain ⟨rfl, I1, rfl, hB, hL, hF⟩ := hQ
  refine ex_st 4 (pc' := 8) (ls' := [(2, xi 0), (1, xi 0), (0, xr 143)]) (st' := []) rfl ?_
  refine x_Ex.mono (lp_mls hB 0 (by decide)) (fun r m' h => ?_)
  obtain ⟨h1, I2, h2, h3⟩ := h
  exact ⟨h1, I2, h2, fun k j hk => by unfold x_ms at hk; rw [h3 _ _ (by omega), hF _ _ (by omega)]⟩
/-- as ct_G_isThing, for what may have gone below the ints -/
theorem ct_G_isThing2 {sc : List Int} {t : Int} (ht : -3000000000 ≤ t ∧ t < 2147483648) {m : xMem} : x_CE sc 1 xN_G_isThing [xi t] m (some (xi (x_b (0 ≤ t ∧ t < 5)))) m := by
  by_cases h : -2147483648 ≤ t
  · exact ct_G_isThing ⟨h, ht.2⟩
  · have hw : wr t = t + 4294967296 := by unfold wr; omega
    refine x_CE.of (M := xM_G_isThing) rfl (Nat.le_of_ble_eq_true rfl) ?_
    refine ex_st 1 (pc' := 1) (ls' := [(0, xi t)]) (st' := [xi t]) rfl ?_
    refine ex_ifw rfl (fun (h0 : wr t < 0) => by omega) (fun h0 => ?_)
    refine ex_st 2 (pc' := 6) (ls' := [(0, xi t)]) (st' := [xi 5, xi t]) rfl ?_
    refine ex_icw rfl (fun h1 => ?_) (fun (h1 : ¬ wr 5 ≤ wr t) => by exfalso; apply h1; rw [hw, show wr 5 = 5 from rfl]; omega)
    refine ex_st 1 (pc' := 14) (ls' := [(0, xi t)]) (st' := [xi 0]) rfl ?_
    refine ex_retz rfl (Or.inl rfl) rfl ?_
    exact ⟨by unfold x_b; rw [if_neg (by omega)], rfl⟩

set_option maxRecDepth 8000 in
set_option maxHeartbeats 1000000 in
theorem op_told_0 {sc : List Int} {I : Nat → Nat → Int} {L : Nat → Nat → Int64} (hR : Rl I L) : x_PQ sc xN_G_told [xr 0, xi 0] xN_m_told [xr 143, xi 0] (xSH, I, L) := by
  obtain ⟨⟨hNs, hNo, hNa, hNb, hNr, hNd, hNg, hNe, hNp, hNk⟩, hI, hT, hX, hC, hH, hQ⟩ := id hR
  have hs := hNs
  unfold RNs at hs
  obtain ⟨c, kd, vv, vo, aw, ba, ro, egg, se, hWW, hM⟩ := hR.vw
  have hT2 := hT
  unfold RT at hT2
  obtain ⟨T, nn, cc, cd, we, en, qv, hXt⟩ := RT.tr hT (t := I 143 13) (by omega) (by omega)
  have hX2 := id hXt
  obtain ⟨u1, u2, u3, u4, u5, u6, u7, u8, u9, u10⟩ := hX2
  have hMT := u10 rfl
  obtain ⟨g, hg1, hg, hgs, hgp⟩ := hM.pres
  have hI17 : I 1 7 = I 143 13 := by omega
  have hs64 := sp_mask64 (sp_nz aw) (n := c) (by have := hWW.2.1; omega)
  have hsN : sp_mask (sp_nz aw) c = (((sp_mask (sp_nz aw) c).toNat : Nat) : Int) := by have := (sp_mask_bd (sp_nz aw) c).1; omega
  obtain ⟨hg_1, hg_2, hg_3, hg_4, hg_5, hg_6⟩ := id hNg
  obtain ⟨n, hn⟩ := Int.eq_ofNat_of_zero_le hg_2
  obtain ⟨ag, hag0⟩ : ∃ ag : Nat → Nat, ∀ k, ag k = (I 150 k).toNat := ⟨_, fun _ => rfl⟩
  have hag : ∀ k, k < n → I 150 k = (ag k : Int) ∧ ag k < 5 := fun k hk => by have h1 := hg_5 k (by omega); have h2 := hag0 k; omega
  have hvo : ∀ p, p < c → 0 ≤ vo p ∧ vo p ≤ 9 := fun p hp => (hM.2.2.2.2.2.2.2 p hp).2.2.2.2.2.1
  refine x_CQ.of (M := xM_G_told) rfl (Nat.le_of_ble_eq_true rfl) ?_
  refine ex_st 3 (pc' := 4) (ls' := [(0, xr 0), (1, xi 0)]) (st' := [xi (-10)]) rfl ?_
  refine ex_call (ct_G_isThing2 (by omega)) (by decide) rfl ⟨rfl, rfl, rfl⟩ ⟨Nat.le_of_ble_eq_true rfl, rfl, rfl⟩ (Nat.le_of_ble_eq_true rfl) rfl ?_
  refine ex_beq rfl (fun h0 => ?_) (fun h0 => ?_)
  · refine ex_st 1 (pc' := 24) (ls' := [(0, xr 0), (1, xi 0)]) (st' := [xi 0]) rfl ?_
    refine ex_st 1 (pc' := 68) (ls' := [(0, xr 0), (1, xi 0)]) (st' := []) rfl ?_
    refine ex_st 3 (pc' := 75) (ls' := [(0, xr 0), (1, xi 0)]) (st' := [xi (I 1 6)]) rfl ?_
    refine ex_reti rfl rfl ?_
    refine x_CQ.of (M := xM_m_told) rfl (Nat.le_of_ble_eq_true rfl) ?_
    refine ex_st 4 (pc' := 6) (ls' := [(0, xr 143), (1, xi 0)]) (st' := [xi 14, xi 10, xi 0, xr 143]) rfl ?_
    refine ex_call (ct_m_in (by first | omega | (constructor <;> omega) | assumption) (by first | omega | (constructor <;> omega) | assumption) (by first | omega | (constructor <;> omega) | assumption)) (by decide) rfl ⟨rfl, rfl, rfl⟩ ⟨Nat.le_of_ble_eq_true rfl, rfl, rfl⟩ (Nat.le_of_ble_eq_true rfl) rfl ?_
    refine ex_beq rfl (fun h1 => ?_) (fun h1 => ?_)
    · refine ex_st 1 (pc' := 23) (ls' := [(0, xr 143), (1, xi 0)]) (st' := [xi 0]) rfl ?_
      refine ex_st 1 (pc' := 64) (ls' := [(0, xr 143), (1, xi 0)]) (st' := []) rfl ?_
      refine ex_st 2 (pc' := 68) (ls' := [(0, xr 143), (1, xi 0)]) (st' := [xi (I 143 4)]) rfl ?_
      refine ex_reti rfl rfl ?_
      exact ⟨x_req (by first | rfl | omega), _, _, rfl, hR⟩
    · exfalso; omega
  · exfalso; omega
set_option maxRecDepth 8000 in
set_option maxHeartbeats 1000000 in
theorem op_told_1 {sc : List Int} {I : Nat → Nat → Int} {L : Nat → Nat → Int64} (hR : Rl I L) : x_PQ sc xN_G_told [xr 0, xi 1] xN_m_told [xr 143, xi 1] (xSH, I, L) := by
  obtain ⟨⟨hNs, hNo, hNa, hNb, hNr, hNd, hNg, hNe, hNp, hNk⟩, hI, hT, hX, hC, hH, hQ⟩ := id hR
  have hs := hNs
  unfold RNs at hs
  obtain ⟨c, kd, vv, vo, aw, ba, ro, egg, se, hWW, hM⟩ := hR.vw
  have hT2 := hT
  unfold RT at hT2
  obtain ⟨T, nn, cc, cd, we, en, qv, hXt⟩ := RT.tr hT (t := I 143 13) (by omega) (by omega)
  have hX2 := id hXt
  obtain ⟨u1, u2, u3, u4, u5, u6, u7, u8, u9, u10⟩ := hX2
  have hMT := u10 rfl
  obtain ⟨g, hg1, hg, hgs, hgp⟩ := hM.pres
  have hI17 : I 1 7 = I 143 13 := by omega
  have hs64 := sp_mask64 (sp_nz aw) (n := c) (by have := hWW.2.1; omega)
  have hsN : sp_mask (sp_nz aw) c = (((sp_mask (sp_nz aw) c).toNat : Nat) : Int) := by have := (sp_mask_bd (sp_nz aw) c).1; omega
  obtain ⟨hg_1, hg_2, hg_3, hg_4, hg_5, hg_6⟩ := id hNg
  obtain ⟨n, hn⟩ := Int.eq_ofNat_of_zero_le hg_2
  obtain ⟨ag, hag0⟩ : ∃ ag : Nat → Nat, ∀ k, ag k = (I 150 k).toNat := ⟨_, fun _ => rfl⟩
  have hag : ∀ k, k < n → I 150 k = (ag k : Int) ∧ ag k < 5 := fun k hk => by have h1 := hg_5 k (by omega); have h2 := hag0 k; omega
  have hvo : ∀ p, p < c → 0 ≤ vo p ∧ vo p ≤ 9 := fun p hp => (hM.2.2.2.2.2.2.2 p hp).2.2.2.2.2.1
  refine x_CQ.of (M := xM_G_told) rfl (Nat.le_of_ble_eq_true rfl) ?_
  refine ex_st 3 (pc' := 4) (ls' := [(0, xr 0), (1, xi 1)]) (st' := [xi (-9)]) rfl ?_
  refine ex_call (ct_G_isThing2 (by omega)) (by decide) rfl ⟨rfl, rfl, rfl⟩ ⟨Nat.le_of_ble_eq_true rfl, rfl, rfl⟩ (Nat.le_of_ble_eq_true rfl) rfl ?_
  refine ex_beq rfl (fun h0 => ?_) (fun h0 => ?_)
  · refine ex_st 1 (pc' := 24) (ls' := [(0, xr 0), (1, xi 1)]) (st' := [xi 1]) rfl ?_
    refine ex_st 1 (pc' := 76) (ls' := [(0, xr 0), (1, xi 1)]) (st' := []) rfl ?_
    refine ex_st 3 (pc' := 81) (ls' := [(0, xr 0), (1, xi 1)]) (st' := [xr 1, xr 0]) rfl ?_
    have hct := ct_G_treatyOf (sc := sc) (I := I) (L := L) WS.mk1 hI17 u9
    rw [u1] at hct
    refine ex_call hct (by decide) rfl ⟨rfl, rfl, rfl⟩ ⟨Nat.le_of_ble_eq_true rfl, rfl, rfl⟩ (Nat.le_of_ble_eq_true rfl) rfl ?_
    refine ex_gfi rfl (by have := u2.2.2.2.2; omega) u2.1 (by decide) (by decide) rfl ?_
    rw [u7]
    refine ex_reti rfl rfl ?_
    refine x_CQ.of (M := xM_m_told) rfl (Nat.le_of_ble_eq_true rfl) ?_
    refine ex_st 4 (pc' := 6) (ls' := [(0, xr 143), (1, xi 1)]) (st' := [xi 14, xi 10, xi 1, xr 143]) rfl ?_
    refine ex_call (ct_m_in (by first | omega | (constructor <;> omega) | assumption) (by first | omega | (constructor <;> omega) | assumption) (by first | omega | (constructor <;> omega) | assumption)) (by decide) rfl ⟨rfl, rfl, rfl⟩ ⟨Nat.le_of_ble_eq_true rfl, rfl, rfl⟩ (Nat.le_of_ble_eq_true rfl) rfl ?_
    refine ex_beq rfl (fun h1 => ?_) (fun h1 => ?_)
    · refine ex_st 1 (pc' := 23) (ls' := [(0, xr 143), (1, xi 1)]) (st' := [xi 1]) rfl ?_
      refine ex_st 1 (pc' := 69) (ls' := [(0, xr 143), (1, xi 1)]) (st' := []) rfl ?_
      refine ex_st 1 (pc' := 70) (ls' := [(0, xr 143), (1, xi 1)]) (st' := [xr 143]) rfl ?_
      refine ex_call (ct_m_quota hMT) (by decide) rfl ⟨rfl, rfl, rfl⟩ ⟨Nat.le_of_ble_eq_true rfl, rfl, rfl⟩ (Nat.le_of_ble_eq_true rfl) rfl ?_
      refine ex_reti rfl rfl ?_
      exact ⟨x_req (by first | rfl | omega), _, _, rfl, hR⟩
    · exfalso; omega
  · exfalso; omega
set_option maxRecDepth 8000 in
set_option maxHeartbeats 1000000 in
theorem op_told_2 {sc : List Int} {I : Nat → Nat → Int} {L : Nat → Nat → Int64} (hR : Rl I L) : x_PQ sc xN_G_told [xr 0, xi 2] xN_m_told [xr 143, xi 2] (xSH, I, L) := by
  obtain ⟨⟨hNs, hNo, hNa, hNb, hNr, hNd, hNg, hNe, hNp, hNk⟩, hI, hT, hX, hC, hH, hQ⟩ := id hR
  have hs := hNs
  unfold RNs at hs
  obtain ⟨c, kd, vv, vo, aw, ba, ro, egg, se, hWW, hM⟩ := hR.vw
  have hT2 := hT
  unfold RT at hT2
  obtain ⟨T, nn, cc, cd, we, en, qv, hXt⟩ := RT.tr hT (t := I 143 13) (by omega) (by omega)
  have hX2 := id hXt
  obtain ⟨u1, u2, u3, u4, u5, u6, u7, u8, u9, u10⟩ := hX2
  have hMT := u10 rfl
  obtain ⟨g, hg1, hg, hgs, hgp⟩ := hM.pres
  have hI17 : I 1 7 = I 143 13 := by omega
  have hs64 := sp_mask64 (sp_nz aw) (n := c) (by have := hWW.2.1; omega)
  have hsN : sp_mask (sp_nz aw) c = (((sp_mask (sp_nz aw) c).toNat : Nat) : Int) := by have := (sp_mask_bd (sp_nz aw) c).1; omega
  obtain ⟨hg_1, hg_2, hg_3, hg_4, hg_5, hg_6⟩ := id hNg
  obtain ⟨n, hn⟩ := Int.eq_ofNat_of_zero_le hg_2
  obtain ⟨ag, hag0⟩ : ∃ ag : Nat → Nat, ∀ k, ag k = (I 150 k).toNat := ⟨_, fun _ => rfl⟩
  have hag : ∀ k, k < n → I 150 k = (ag k : Int) ∧ ag k < 5 := fun k hk => by have h1 := hg_5 k (by omega); have h2 := hag0 k; omega
  have hvo : ∀ p, p < c → 0 ≤ vo p ∧ vo p ≤ 9 := fun p hp => (hM.2.2.2.2.2.2.2 p hp).2.2.2.2.2.1
  refine x_CQ.of (M := xM_G_told) rfl (Nat.le_of_ble_eq_true rfl) ?_
  refine ex_st 3 (pc' := 4) (ls' := [(0, xr 0), (1, xi 2)]) (st' := [xi (-8)]) rfl ?_
  refine ex_call (ct_G_isThing2 (by omega)) (by decide) rfl ⟨rfl, rfl, rfl⟩ ⟨Nat.le_of_ble_eq_true rfl, rfl, rfl⟩ (Nat.le_of_ble_eq_true rfl) rfl ?_
  refine ex_beq rfl (fun h0 => ?_) (fun h0 => ?_)
  · refine ex_st 1 (pc' := 24) (ls' := [(0, xr 0), (1, xi 2)]) (st' := [xi 2]) rfl ?_
    refine ex_st 1 (pc' := 88) (ls' := [(0, xr 0), (1, xi 2)]) (st' := []) rfl ?_
    refine ex_st 3 (pc' := 95) (ls' := [(0, xr 0), (1, xi 2)]) (st' := [xi (I 1 5)]) rfl ?_
    refine ex_reti rfl rfl ?_
    refine x_CQ.of (M := xM_m_told) rfl (Nat.le_of_ble_eq_true rfl) ?_
    refine ex_st 4 (pc' := 6) (ls' := [(0, xr 143), (1, xi 2)]) (st' := [xi 14, xi 10, xi 2, xr 143]) rfl ?_
    refine ex_call (ct_m_in (by first | omega | (constructor <;> omega) | assumption) (by first | omega | (constructor <;> omega) | assumption) (by first | omega | (constructor <;> omega) | assumption)) (by decide) rfl ⟨rfl, rfl, rfl⟩ ⟨Nat.le_of_ble_eq_true rfl, rfl, rfl⟩ (Nat.le_of_ble_eq_true rfl) rfl ?_
    refine ex_beq rfl (fun h1 => ?_) (fun h1 => ?_)
    · refine ex_st 1 (pc' := 23) (ls' := [(0, xr 143), (1, xi 2)]) (st' := [xi 2]) rfl ?_
      refine ex_st 1 (pc' := 74) (ls' := [(0, xr 143), (1, xi 2)]) (st' := []) rfl ?_
      refine ex_st 2 (pc' := 78) (ls' := [(0, xr 143), (1, xi 2)]) (st' := [xi (I 143 3)]) rfl ?_
      refine ex_reti rfl rfl ?_
      exact ⟨x_req (by first | rfl | omega), _, _, rfl, hR⟩
    · exfalso; omega
  · exfalso; omega
set_option maxRecDepth 8000 in
set_option maxHeartbeats 1000000 in
theorem op_told_3 {sc : List Int} {I : Nat → Nat → Int} {L : Nat → Nat → Int64} (hR : Rl I L) : x_PQ sc xN_G_told [xr 0, xi 3] xN_m_told [xr 143, xi 3] (xSH, I, L) := by
  obtain ⟨⟨hNs, hNo, hNa, hNb, hNr, hNd, hNg, hNe, hNp, hNk⟩, hI, hT, hX, hC, hH, hQ⟩ := id hR
  have hs := hNs
  unfold RNs at hs
  obtain ⟨c, kd, vv, vo, aw, ba, ro, egg, se, hWW, hM⟩ := hR.vw
  have hT2 := hT
  unfold RT at hT2
  obtain ⟨T, nn, cc, cd, we, en, qv, hXt⟩ := RT.tr hT (t := I 143 13) (by omega) (by omega)
  have hX2 := id hXt
  obtain ⟨u1, u2, u3, u4, u5, u6, u7, u8, u9, u10⟩ := hX2
  have hMT := u10 rfl
  obtain ⟨g, hg1, hg, hgs, hgp⟩ := hM.pres
  have hI17 : I 1 7 = I 143 13 := by omega
  have hs64 := sp_mask64 (sp_nz aw) (n := c) (by have := hWW.2.1; omega)
  have hsN : sp_mask (sp_nz aw) c = (((sp_mask (sp_nz aw) c).toNat : Nat) : Int) := by have := (sp_mask_bd (sp_nz aw) c).1; omega
  obtain ⟨hg_1, hg_2, hg_3, hg_4, hg_5, hg_6⟩ := id hNg
  obtain ⟨n, hn⟩ := Int.eq_ofNat_of_zero_le hg_2
  obtain ⟨ag, hag0⟩ : ∃ ag : Nat → Nat, ∀ k, ag k = (I 150 k).toNat := ⟨_, fun _ => rfl⟩
  have hag : ∀ k, k < n → I 150 k = (ag k : Int) ∧ ag k < 5 := fun k hk => by have h1 := hg_5 k (by omega); have h2 := hag0 k; omega
  have hvo : ∀ p, p < c → 0 ≤ vo p ∧ vo p ≤ 9 := fun p hp => (hM.2.2.2.2.2.2.2 p hp).2.2.2.2.2.1
  refine x_CQ.of (M := xM_G_told) rfl (Nat.le_of_ble_eq_true rfl) ?_
  refine ex_st 3 (pc' := 4) (ls' := [(0, xr 0), (1, xi 3)]) (st' := [xi (-7)]) rfl ?_
  refine ex_call (ct_G_isThing2 (by omega)) (by decide) rfl ⟨rfl, rfl, rfl⟩ ⟨Nat.le_of_ble_eq_true rfl, rfl, rfl⟩ (Nat.le_of_ble_eq_true rfl) rfl ?_
  refine ex_beq rfl (fun h0 => ?_) (fun h0 => ?_)
  · refine ex_st 1 (pc' := 24) (ls' := [(0, xr 0), (1, xi 3)]) (st' := [xi 3]) rfl ?_
    refine ex_st 1 (pc' := 96) (ls' := [(0, xr 0), (1, xi 3)]) (st' := []) rfl ?_
    refine ex_st 3 (pc' := 101) (ls' := [(0, xr 0), (1, xi 3)]) (st' := [xr 1, xr 0]) rfl ?_
    refine ex_callQ (ct_G_doneByAgendaOf (L := L) WS.mk1 hWW hXt hI17 rfl (n := n) (ag := ag) (by omega) (by omega) (fun k hk => by rw [hg_4 k (by omega)]; exact hag k hk)) (by decide) rfl ⟨rfl, rfl, rfl⟩ ⟨Nat.le_of_ble_eq_true rfl, rfl, rfl⟩ (Nat.le_of_ble_eq_true rfl) rfl (fun ra m2 hQ => ?_)
    obtain ⟨rfl, J, rfl, hJ⟩ := hQ
    refine ex_reti rfl rfl ?_
    refine x_CQ.of (M := xM_m_told) rfl (Nat.le_of_ble_eq_true rfl) ?_
    refine ex_st 4 (pc' := 6) (ls' := [(0, xr 143), (1, xi 3)]) (st' := [xi 14, xi 10, xi 3, xr 143]) rfl ?_
    refine ex_call (ct_m_in (by first | omega | (constructor <;> omega) | assumption) (by first | omega | (constructor <;> omega) | assumption) (by first | omega | (constructor <;> omega) | assumption)) (by decide) rfl ⟨rfl, rfl, rfl⟩ ⟨Nat.le_of_ble_eq_true rfl, rfl, rfl⟩ (Nat.le_of_ble_eq_true rfl) rfl ?_
    refine ex_beq rfl (fun h1 => ?_) (fun h1 => ?_)
    · refine ex_st 1 (pc' := 23) (ls' := [(0, xr 143), (1, xi 3)]) (st' := [xi 3]) rfl ?_
      refine ex_st 1 (pc' := 79) (ls' := [(0, xr 143), (1, xi 3)]) (st' := []) rfl ?_
      refine ex_st 1 (pc' := 80) (ls' := [(0, xr 143), (1, xi 3)]) (st' := [xr 143]) rfl ?_
      have hMx := hM.fr2 (I' := J) (fun k j a b => hJ k j (by omega))
      have hTx := hMT.fr2 (I' := J) (fun k j a b => hJ k j (by omega))
      have hgx : J 143 1 = (g : Int) := by rw [hJ _ _ (by omega)]; exact hg1
      have hnx : J 143 2 = (n : Int) := by rw [hJ _ _ (by omega)]; exact hn
      have hagx : ∀ k, k < n → J 150 k = (ag k : Int) ∧ ag k < 5 := fun k hk => by rw [hJ _ _ (by omega)]; exact hag k hk
      have hXI : ∀ k j, ¬ (92 ≤ k ∧ k ≤ 103) → J k j = I k j := fun k j hk => hJ k j (by omega)
      refine ex_callQ (ct_m_doneNow (L := L) hMx hTx hgx hg hgs hnx (by omega) hagx) (by decide) rfl ⟨rfl, rfl, rfl⟩ ⟨Nat.le_of_ble_eq_true rfl, rfl, rfl⟩ (Nat.le_of_ble_eq_true rfl) rfl (fun ra m2 hQ => ?_)
      obtain ⟨rfl, K, rfl, hK⟩ := hQ
      have hKI : ∀ k j, ¬ (92 ≤ k ∧ k ≤ 103) → ¬ x_ms k j → K k j = I k j := fun k j h1 h2 => by rw [hK _ _ (by first | exact h2 | (unfold x_ms at h2; omega)), hXI _ _ h1]
      refine ex_reti rfl rfl ?_
      exact ⟨x_req (by first | rfl | omega), _, _, rfl, hR.fr (fun k j hk => hKI k j (by unfold x_scr at hk; omega) (by unfold x_scr at hk; unfold x_ms; omega)) (fun _ _ => rfl)⟩
    · exfalso; omega
  · exfalso; omega
set_option maxRecDepth 8000 in
set_option maxHeartbeats 1000000 in
theorem op_told_4 {sc : List Int} {I : Nat → Nat → Int} {L : Nat → Nat → Int64} (hR : Rl I L) : x_PQ sc xN_G_told [xr 0, xi 4] xN_m_told [xr 143, xi 4] (xSH, I, L) := by
  obtain ⟨⟨hNs, hNo, hNa, hNb, hNr, hNd, hNg, hNe, hNp, hNk⟩, hI, hT, hX, hC, hH, hQ⟩ := id hR
  have hs := hNs
  unfold RNs at hs
  obtain ⟨c, kd, vv, vo, aw, ba, ro, egg, se, hWW, hM⟩ := hR.vw
  have hT2 := hT
  unfold RT at hT2
  obtain ⟨T, nn, cc, cd, we, en, qv, hXt⟩ := RT.tr hT (t := I 143 13) (by omega) (by omega)
  have hX2 := id hXt
  obtain ⟨u1, u2, u3, u4, u5, u6, u7, u8, u9, u10⟩ := hX2
  have hMT := u10 rfl
  obtain ⟨g, hg1, hg, hgs, hgp⟩ := hM.pres
  have hI17 : I 1 7 = I 143 13 := by omega
  have hs64 := sp_mask64 (sp_nz aw) (n := c) (by have := hWW.2.1; omega)
  have hsN : sp_mask (sp_nz aw) c = (((sp_mask (sp_nz aw) c).toNat : Nat) : Int) := by have := (sp_mask_bd (sp_nz aw) c).1; omega
  obtain ⟨hg_1, hg_2, hg_3, hg_4, hg_5, hg_6⟩ := id hNg
  obtain ⟨n, hn⟩ := Int.eq_ofNat_of_zero_le hg_2
  obtain ⟨ag, hag0⟩ : ∃ ag : Nat → Nat, ∀ k, ag k = (I 150 k).toNat := ⟨_, fun _ => rfl⟩
  have hag : ∀ k, k < n → I 150 k = (ag k : Int) ∧ ag k < 5 := fun k hk => by have h1 := hg_5 k (by omega); have h2 := hag0 k; omega
  have hvo : ∀ p, p < c → 0 ≤ vo p ∧ vo p ≤ 9 := fun p hp => (hM.2.2.2.2.2.2.2 p hp).2.2.2.2.2.1
  refine x_CQ.of (M := xM_G_told) rfl (Nat.le_of_ble_eq_true rfl) ?_
  refine ex_st 3 (pc' := 4) (ls' := [(0, xr 0), (1, xi 4)]) (st' := [xi (-6)]) rfl ?_
  refine ex_call (ct_G_isThing2 (by omega)) (by decide) rfl ⟨rfl, rfl, rfl⟩ ⟨Nat.le_of_ble_eq_true rfl, rfl, rfl⟩ (Nat.le_of_ble_eq_true rfl) rfl ?_
  refine ex_beq rfl (fun h0 => ?_) (fun h0 => ?_)
  · refine ex_st 1 (pc' := 24) (ls' := [(0, xr 0), (1, xi 4)]) (st' := [xi 4]) rfl ?_
    refine ex_st 1 (pc' := 105) (ls' := [(0, xr 0), (1, xi 4)]) (st' := []) rfl ?_
    refine ex_st 3 (pc' := 110) (ls' := [(0, xr 0), (1, xi 4)]) (st' := [xr 1, xr 0]) rfl ?_
    refine ex_callQ (ct_G_ballotOf (L := L) WS.mk1 hWW u2 u3 u4 u5 u6 u7 u8 hI17 u9 u1) (by decide) rfl ⟨rfl, rfl, rfl⟩ ⟨Nat.le_of_ble_eq_true rfl, rfl, rfl⟩ (Nat.le_of_ble_eq_true rfl) rfl (fun ra m2 hQ => ?_)
    obtain ⟨rfl, J, rfl, hJ, hBW, hP, hBM⟩ := hQ
    rw [hsN] at hP
    refine ex_call (ct_B_winner hBW hs64 hP) (by decide) rfl ⟨rfl, rfl, rfl⟩ ⟨Nat.le_of_ble_eq_true rfl, rfl, rfl⟩ (Nat.le_of_ble_eq_true rfl) rfl ?_
    refine ex_reti rfl rfl ?_
    refine x_CQ.of (M := xM_m_told) rfl (Nat.le_of_ble_eq_true rfl) ?_
    refine ex_st 4 (pc' := 6) (ls' := [(0, xr 143), (1, xi 4)]) (st' := [xi 14, xi 10, xi 4, xr 143]) rfl ?_
    refine ex_call (ct_m_in (by first | omega | (constructor <;> omega) | assumption) (by first | omega | (constructor <;> omega) | assumption) (by first | omega | (constructor <;> omega) | assumption)) (by decide) rfl ⟨rfl, rfl, rfl⟩ ⟨Nat.le_of_ble_eq_true rfl, rfl, rfl⟩ (Nat.le_of_ble_eq_true rfl) rfl ?_
    refine ex_beq rfl (fun h1 => ?_) (fun h1 => ?_)
    · refine ex_st 1 (pc' := 23) (ls' := [(0, xr 143), (1, xi 4)]) (st' := [xi 4]) rfl ?_
      refine ex_st 1 (pc' := 84) (ls' := [(0, xr 143), (1, xi 4)]) (st' := []) rfl ?_
      refine ex_st 1 (pc' := 85) (ls' := [(0, xr 143), (1, xi 4)]) (st' := [xr 143]) rfl ?_
      have hMx := hM.fr2 (I' := J) (fun k j a b => hJ k j (by omega))
      have hTx := hMT.fr2 (I' := J) (fun k j a b => hJ k j (by omega))
      have hgx : J 143 1 = (g : Int) := by rw [hJ _ _ (by omega)]; exact hg1
      have hnx : J 143 2 = (n : Int) := by rw [hJ _ _ (by omega)]; exact hn
      have hagx : ∀ k, k < n → J 150 k = (ag k : Int) ∧ ag k < 5 := fun k hk => by rw [hJ _ _ (by omega)]; exact hag k hk
      have hXI : ∀ k j, ¬ (92 ≤ k ∧ k ≤ 103) → J k j = I k j := fun k j hk => hJ k j (by omega)
      refine ex_callQ (ct_m_first (L := L) hMx hTx hgx hg hgs) (by decide) rfl ⟨rfl, rfl, rfl⟩ ⟨Nat.le_of_ble_eq_true rfl, rfl, rfl⟩ (Nat.le_of_ble_eq_true rfl) rfl (fun ra m2 hQ => ?_)
      obtain ⟨rfl, K, rfl, hK⟩ := hQ
      have hKI : ∀ k j, ¬ (92 ≤ k ∧ k ≤ 103) → ¬ x_ms k j → K k j = I k j := fun k j h1 h2 => by rw [hK _ _ (by first | exact h2 | (unfold x_ms at h2; omega)), hXI _ _ h1]
      refine ex_reti rfl rfl ?_
      exact ⟨x_req (by first | rfl | omega), _, _, rfl, hR.fr (fun k j hk => hKI k j (by unfold x_scr at hk; omega) (by unfold x_scr at hk; unfold x_ms; omega)) (fun _ _ => rfl)⟩
    · exfalso; omega
  · exfalso; omega
set_option maxRecDepth 8000 in
set_option maxHeartbeats 1000000 in
theorem op_told_5 {sc : List Int} {I : Nat → Nat → Int} {L : Nat → Nat → Int64} (hR : Rl I L) : x_PQ sc xN_G_told [xr 0, xi 5] xN_m_told [xr 143, xi 5] (xSH, I, L) := by
  obtain ⟨⟨hNs, hNo, hNa, hNb, hNr, hNd, hNg, hNe, hNp, hNk⟩, hI, hT, hX, hC, hH, hQ⟩ := id hR
  have hs := hNs
  unfold RNs at hs
  obtain ⟨c, kd, vv, vo, aw, ba, ro, egg, se, hWW, hM⟩ := hR.vw
  have hT2 := hT
  unfold RT at hT2
  obtain ⟨T, nn, cc, cd, we, en, qv, hXt⟩ := RT.tr hT (t := I 143 13) (by omega) (by omega)
  have hX2 := id hXt
  obtain ⟨u1, u2, u3, u4, u5, u6, u7, u8, u9, u10⟩ := hX2
  have hMT := u10 rfl
  obtain ⟨g, hg1, hg, hgs, hgp⟩ := hM.pres
  have hI17 : I 1 7 = I 143 13 := by omega
  have hs64 := sp_mask64 (sp_nz aw) (n := c) (by have := hWW.2.1; omega)
  have hsN : sp_mask (sp_nz aw) c = (((sp_mask (sp_nz aw) c).toNat : Nat) : Int) := by have := (sp_mask_bd (sp_nz aw) c).1; omega
  obtain ⟨hg_1, hg_2, hg_3, hg_4, hg_5, hg_6⟩ := id hNg
  obtain ⟨n, hn⟩ := Int.eq_ofNat_of_zero_le hg_2
  obtain ⟨ag, hag0⟩ : ∃ ag : Nat → Nat, ∀ k, ag k = (I 150 k).toNat := ⟨_, fun _ => rfl⟩
  have hag : ∀ k, k < n → I 150 k = (ag k : Int) ∧ ag k < 5 := fun k hk => by have h1 := hg_5 k (by omega); have h2 := hag0 k; omega
  have hvo : ∀ p, p < c → 0 ≤ vo p ∧ vo p ≤ 9 := fun p hp => (hM.2.2.2.2.2.2.2 p hp).2.2.2.2.2.1
  refine x_CQ.of (M := xM_G_told) rfl (Nat.le_of_ble_eq_true rfl) ?_
  refine ex_st 3 (pc' := 4) (ls' := [(0, xr 0), (1, xi 5)]) (st' := [xi (-5)]) rfl ?_
  refine ex_call (ct_G_isThing2 (by omega)) (by decide) rfl ⟨rfl, rfl, rfl⟩ ⟨Nat.le_of_ble_eq_true rfl, rfl, rfl⟩ (Nat.le_of_ble_eq_true rfl) rfl ?_
  refine ex_beq rfl (fun h0 => ?_) (fun h0 => ?_)
  · refine ex_st 1 (pc' := 24) (ls' := [(0, xr 0), (1, xi 5)]) (st' := [xi 5]) rfl ?_
    refine ex_st 1 (pc' := 117) (ls' := [(0, xr 0), (1, xi 5)]) (st' := []) rfl ?_
    refine ex_st 3 (pc' := 122) (ls' := [(0, xr 0), (1, xi 5)]) (st' := [xr 1, xr 0]) rfl ?_
    refine ex_callQ (ct_G_ballotOf (L := L) WS.mk1 hWW u2 u3 u4 u5 u6 u7 u8 hI17 u9 u1) (by decide) rfl ⟨rfl, rfl, rfl⟩ ⟨Nat.le_of_ble_eq_true rfl, rfl, rfl⟩ (Nat.le_of_ble_eq_true rfl) rfl (fun ra m2 hQ => ?_)
    obtain ⟨rfl, J, rfl, hJ, hBW, hP, hBM⟩ := hQ
    rw [hsN] at hP
    refine ex_call (ct_B_rings hBM) (by decide) rfl ⟨rfl, rfl, rfl⟩ ⟨Nat.le_of_ble_eq_true rfl, rfl, rfl⟩ (Nat.le_of_ble_eq_true rfl) rfl ?_
    refine ex_reti rfl rfl ?_
    refine x_CQ.of (M := xM_m_told) rfl (Nat.le_of_ble_eq_true rfl) ?_
    refine ex_st 4 (pc' := 6) (ls' := [(0, xr 143), (1, xi 5)]) (st' := [xi 14, xi 10, xi 5, xr 143]) rfl ?_
    refine ex_call (ct_m_in (by first | omega | (constructor <;> omega) | assumption) (by first | omega | (constructor <;> omega) | assumption) (by first | omega | (constructor <;> omega) | assumption)) (by decide) rfl ⟨rfl, rfl, rfl⟩ ⟨Nat.le_of_ble_eq_true rfl, rfl, rfl⟩ (Nat.le_of_ble_eq_true rfl) rfl ?_
    refine ex_beq rfl (fun h1 => ?_) (fun h1 => ?_)
    · refine ex_st 1 (pc' := 23) (ls' := [(0, xr 143), (1, xi 5)]) (st' := [xi 5]) rfl ?_
      refine ex_st 1 (pc' := 89) (ls' := [(0, xr 143), (1, xi 5)]) (st' := []) rfl ?_
      refine ex_st 1 (pc' := 90) (ls' := [(0, xr 143), (1, xi 5)]) (st' := [xr 143]) rfl ?_
      have hMx := hM.fr2 (I' := J) (fun k j a b => hJ k j (by omega))
      have hTx := hMT.fr2 (I' := J) (fun k j a b => hJ k j (by omega))
      have hgx : J 143 1 = (g : Int) := by rw [hJ _ _ (by omega)]; exact hg1
      have hnx : J 143 2 = (n : Int) := by rw [hJ _ _ (by omega)]; exact hn
      have hagx : ∀ k, k < n → J 150 k = (ag k : Int) ∧ ag k < 5 := fun k hk => by rw [hJ _ _ (by omega)]; exact hag k hk
      have hXI : ∀ k j, ¬ (92 ≤ k ∧ k ≤ 103) → J k j = I k j := fun k j hk => hJ k j (by omega)
      refine ex_callQ (ct_m_rings (L := L) hMx hTx hgx hg hgs) (by decide) rfl ⟨rfl, rfl, rfl⟩ ⟨Nat.le_of_ble_eq_true rfl, rfl, rfl⟩ (Nat.le_of_ble_eq_true rfl) rfl (fun ra m2 hQ => ?_)
      obtain ⟨rfl, K, rfl, hK⟩ := hQ
      have hKI : ∀ k j, ¬ (92 ≤ k ∧ k ≤ 103) → ¬ x_ms k j → K k j = I k j := fun k j h1 h2 => by rw [hK _ _ (by first | exact h2 | (unfold x_ms at h2; omega)), hXI _ _ h1]
      refine ex_reti rfl rfl ?_
      exact ⟨x_req (by first | rfl | omega), _, _, rfl, hR.fr (fun k j hk => hKI k j (by unfold x_scr at hk; omega) (by unfold x_scr at hk; unfold x_ms; omega)) (fun _ _ => rfl)⟩
    · exfalso; omega
  · exfalso; omega
set_option maxRecDepth 8000 in
set_option maxHeartbeats 1000000 in
theorem op_told_6 {sc : List Int} {I : Nat → Nat → Int} {L : Nat → Nat → Int64} (hR : Rl I L) : x_PQ sc xN_G_told [xr 0, xi 6] xN_m_told [xr 143, xi 6] (xSH, I, L) := by
  obtain ⟨⟨hNs, hNo, hNa, hNb, hNr, hNd, hNg, hNe, hNp, hNk⟩, hI, hT, hX, hC, hH, hQ⟩ := id hR
  have hs := hNs
  unfold RNs at hs
  obtain ⟨c, kd, vv, vo, aw, ba, ro, egg, se, hWW, hM⟩ := hR.vw
  have hT2 := hT
  unfold RT at hT2
  obtain ⟨T, nn, cc, cd, we, en, qv, hXt⟩ := RT.tr hT (t := I 143 13) (by omega) (by omega)
  have hX2 := id hXt
  obtain ⟨u1, u2, u3, u4, u5, u6, u7, u8, u9, u10⟩ := hX2
  have hMT := u10 rfl
  obtain ⟨g, hg1, hg, hgs, hgp⟩ := hM.pres
  have hI17 : I 1 7 = I 143 13 := by omega
  have hs64 := sp_mask64 (sp_nz aw) (n := c) (by have := hWW.2.1; omega)
  have hsN : sp_mask (sp_nz aw) c = (((sp_mask (sp_nz aw) c).toNat : Nat) : Int) := by have := (sp_mask_bd (sp_nz aw) c).1; omega
  obtain ⟨hg_1, hg_2, hg_3, hg_4, hg_5, hg_6⟩ := id hNg
  obtain ⟨n, hn⟩ := Int.eq_ofNat_of_zero_le hg_2
  obtain ⟨ag, hag0⟩ : ∃ ag : Nat → Nat, ∀ k, ag k = (I 150 k).toNat := ⟨_, fun _ => rfl⟩
  have hag : ∀ k, k < n → I 150 k = (ag k : Int) ∧ ag k < 5 := fun k hk => by have h1 := hg_5 k (by omega); have h2 := hag0 k; omega
  have hvo : ∀ p, p < c → 0 ≤ vo p ∧ vo p ≤ 9 := fun p hp => (hM.2.2.2.2.2.2.2 p hp).2.2.2.2.2.1
  refine x_CQ.of (M := xM_G_told) rfl (Nat.le_of_ble_eq_true rfl) ?_
  refine ex_st 3 (pc' := 4) (ls' := [(0, xr 0), (1, xi 6)]) (st' := [xi (-4)]) rfl ?_
  refine ex_call (ct_G_isThing2 (by omega)) (by decide) rfl ⟨rfl, rfl, rfl⟩ ⟨Nat.le_of_ble_eq_true rfl, rfl, rfl⟩ (Nat.le_of_ble_eq_true rfl) rfl ?_
  refine ex_beq rfl (fun h0 => ?_) (fun h0 => ?_)
  · refine ex_st 1 (pc' := 24) (ls' := [(0, xr 0), (1, xi 6)]) (st' := [xi 6]) rfl ?_
    refine ex_st 1 (pc' := 129) (ls' := [(0, xr 0), (1, xi 6)]) (st' := []) rfl ?_
    refine ex_st 3 (pc' := 134) (ls' := [(0, xr 0), (1, xi 6)]) (st' := [xr 1, xr 0]) rfl ?_
    refine ex_callQ (ct_G_ballotOf (L := L) WS.mk1 hWW u2 u3 u4 u5 u6 u7 u8 hI17 u9 u1) (by decide) rfl ⟨rfl, rfl, rfl⟩ ⟨Nat.le_of_ble_eq_true rfl, rfl, rfl⟩ (Nat.le_of_ble_eq_true rfl) rfl (fun ra m2 hQ => ?_)
    obtain ⟨rfl, J, rfl, hJ, hBW, hP, hBM⟩ := hQ
    rw [hsN] at hP
    refine ex_callQ (ct_B_neverDone hBM) (by decide) rfl ⟨rfl, rfl, rfl⟩ ⟨Nat.le_of_ble_eq_true rfl, rfl, rfl⟩ (Nat.le_of_ble_eq_true rfl) rfl (fun ra m2 hQ => ?_)
    obtain ⟨rfl, J2, rfl, hJ3⟩ := hQ
    have hJ2 : ∀ k j, k < 92 ∨ 103 < k → J2 k j = I k j := fun k j hk => by rw [hJ3 _ _ (by omega), hJ _ _ (by omega)]
    refine ex_reti rfl rfl ?_
    refine x_CQ.of (M := xM_m_told) rfl (Nat.le_of_ble_eq_true rfl) ?_
    refine ex_st 4 (pc' := 6) (ls' := [(0, xr 143), (1, xi 6)]) (st' := [xi 14, xi 10, xi 6, xr 143]) rfl ?_
    refine ex_call (ct_m_in (by first | omega | (constructor <;> omega) | assumption) (by first | omega | (constructor <;> omega) | assumption) (by first | omega | (constructor <;> omega) | assumption)) (by decide) rfl ⟨rfl, rfl, rfl⟩ ⟨Nat.le_of_ble_eq_true rfl, rfl, rfl⟩ (Nat.le_of_ble_eq_true rfl) rfl ?_
    refine ex_beq rfl (fun h1 => ?_) (fun h1 => ?_)
    · refine ex_st 1 (pc' := 23) (ls' := [(0, xr 143), (1, xi 6)]) (st' := [xi 6]) rfl ?_
      refine ex_st 1 (pc' := 94) (ls' := [(0, xr 143), (1, xi 6)]) (st' := []) rfl ?_
      refine ex_st 1 (pc' := 95) (ls' := [(0, xr 143), (1, xi 6)]) (st' := [xr 143]) rfl ?_
      have hMx := hM.fr2 (I' := J2) (fun k j a b => hJ2 k j (by omega))
      have hTx := hMT.fr2 (I' := J2) (fun k j a b => hJ2 k j (by omega))
      have hgx : J2 143 1 = (g : Int) := by rw [hJ2 _ _ (by omega)]; exact hg1
      have hnx : J2 143 2 = (n : Int) := by rw [hJ2 _ _ (by omega)]; exact hn
      have hagx : ∀ k, k < n → J2 150 k = (ag k : Int) ∧ ag k < 5 := fun k hk => by rw [hJ2 _ _ (by omega)]; exact hag k hk
      have hXI : ∀ k j, ¬ (92 ≤ k ∧ k ≤ 103) → J2 k j = I k j := fun k j hk => hJ2 k j (by omega)
      refine ex_callQ (ct_m_lastSet (L := L) hMx hTx hgx hg hgs) (by decide) rfl ⟨rfl, rfl, rfl⟩ ⟨Nat.le_of_ble_eq_true rfl, rfl, rfl⟩ (Nat.le_of_ble_eq_true rfl) rfl (fun ra m2 hQ => ?_)
      obtain ⟨rfl, K, rfl, hK⟩ := hQ
      have hKI : ∀ k j, ¬ (92 ≤ k ∧ k ≤ 103) → ¬ x_ms k j → K k j = I k j := fun k j h1 h2 => by rw [hK _ _ (by first | exact h2 | (unfold x_ms at h2; omega)), hXI _ _ h1]
      refine ex_reti rfl rfl ?_
      exact ⟨x_req (by first | rfl | omega), _, _, rfl, hR.fr (fun k j hk => hKI k j (by unfold x_scr at hk; omega) (by unfold x_scr at hk; unfold x_ms; omega)) (fun _ _ => rfl)⟩
    · exfalso; omega
  · exfalso; omega
theorem op_told_10 {sc : List Int} {I : Nat → Nat → Int} {L : Nat → Nat → Int64} (hR : Rl I L) : x_PQ sc xN_G_told [xr 0, xi 10] xN_m_told [xr 143, xi 10] (xSH, I, L) := by
  obtain ⟨⟨hNs, hNo, hNa, hNb, hNr, hNd, hNg, hNe, hNp, hNk⟩, hI, hT, hX, hC, hH, hQ⟩ := id hR
  have hs := hNs
  unfold RNs at hs
  have hd := hNd 0 (by decide)
  refine x_CQ.of (M := xM_G_told) rfl (Nat.le_of_ble_eq_true rfl) ?_
  refine ex_st 3 (pc' := 4) (ls' := [(0, xr 0), (1, xi 10)]) (st' := [xi 0]) rfl ?_
  refine ex_call (ct_G_isThing2 (by omega)) (by decide) rfl ⟨rfl, rfl, rfl⟩ ⟨Nat.le_of_ble_eq_true rfl, rfl, rfl⟩ (Nat.le_of_ble_eq_true rfl) rfl ?_
  refine ex_beq rfl (fun h0 => ?_) (fun h0 => ?_)
  · exfalso; omega
  · refine ex_st 6 (pc' := 21) (ls' := [(0, xr 0), (1, xi 10)]) (st' := [xi 0, xr 3]) rfl ?_
    refine ex_iald (j := 0) rfl (by decide) (rfl : xSH[3]? = some _) (by decide) (by decide) (by decide) ?_
    refine ex_reti rfl rfl ?_
    refine x_CQ.of (M := xM_m_told) rfl (Nat.le_of_ble_eq_true rfl) ?_
    refine ex_st 4 (pc' := 6) (ls' := [(0, xr 143), (1, xi 10)]) (st' := [xi 14, xi 10, xi 10, xr 143]) rfl ?_
    refine ex_call (ct_m_in (by first | omega | (constructor <;> omega) | assumption) (by first | omega | (constructor <;> omega) | assumption) (by first | omega | (constructor <;> omega) | assumption)) (by decide) rfl ⟨rfl, rfl, rfl⟩ ⟨Nat.le_of_ble_eq_true rfl, rfl, rfl⟩ (Nat.le_of_ble_eq_true rfl) rfl ?_
    refine ex_beq rfl (fun h1 => ?_) (fun h1 => ?_)
    · exfalso; omega
    · refine ex_st 5 (pc' := 20) (ls' := [(0, xr 143), (1, xi 10)]) (st' := [xi 0, xr 149]) rfl ?_
      refine ex_iald (j := 0) rfl (by decide) (rfl : xSH[149]? = some _) (by decide) (by decide) (by decide) ?_
      refine ex_reti rfl rfl ?_
      exact ⟨x_req (by first | rfl | omega), _, _, rfl, hR⟩
theorem op_told_11 {sc : List Int} {I : Nat → Nat → Int} {L : Nat → Nat → Int64} (hR : Rl I L) : x_PQ sc xN_G_told [xr 0, xi 11] xN_m_told [xr 143, xi 11] (xSH, I, L) := by
  obtain ⟨⟨hNs, hNo, hNa, hNb, hNr, hNd, hNg, hNe, hNp, hNk⟩, hI, hT, hX, hC, hH, hQ⟩ := id hR
  have hs := hNs
  unfold RNs at hs
  have hd := hNd 1 (by decide)
  refine x_CQ.of (M := xM_G_told) rfl (Nat.le_of_ble_eq_true rfl) ?_
  refine ex_st 3 (pc' := 4) (ls' := [(0, xr 0), (1, xi 11)]) (st' := [xi 1]) rfl ?_
  refine ex_call (ct_G_isThing2 (by omega)) (by decide) rfl ⟨rfl, rfl, rfl⟩ ⟨Nat.le_of_ble_eq_true rfl, rfl, rfl⟩ (Nat.le_of_ble_eq_true rfl) rfl ?_
  refine ex_beq rfl (fun h0 => ?_) (fun h0 => ?_)
  · exfalso; omega
  · refine ex_st 6 (pc' := 21) (ls' := [(0, xr 0), (1, xi 11)]) (st' := [xi 1, xr 3]) rfl ?_
    refine ex_iald (j := 1) rfl (by decide) (rfl : xSH[3]? = some _) (by decide) (by decide) (by decide) ?_
    refine ex_reti rfl rfl ?_
    refine x_CQ.of (M := xM_m_told) rfl (Nat.le_of_ble_eq_true rfl) ?_
    refine ex_st 4 (pc' := 6) (ls' := [(0, xr 143), (1, xi 11)]) (st' := [xi 14, xi 10, xi 11, xr 143]) rfl ?_
    refine ex_call (ct_m_in (by first | omega | (constructor <;> omega) | assumption) (by first | omega | (constructor <;> omega) | assumption) (by first | omega | (constructor <;> omega) | assumption)) (by decide) rfl ⟨rfl, rfl, rfl⟩ ⟨Nat.le_of_ble_eq_true rfl, rfl, rfl⟩ (Nat.le_of_ble_eq_true rfl) rfl ?_
    refine ex_beq rfl (fun h1 => ?_) (fun h1 => ?_)
    · exfalso; omega
    · refine ex_st 5 (pc' := 20) (ls' := [(0, xr 143), (1, xi 11)]) (st' := [xi 1, xr 149]) rfl ?_
      refine ex_iald (j := 1) rfl (by decide) (rfl : xSH[149]? = some _) (by decide) (by decide) (by decide) ?_
      refine ex_reti rfl rfl ?_
      exact ⟨x_req (by first | rfl | omega), _, _, rfl, hR⟩
theorem op_told_12 {sc : List Int} {I : Nat → Nat → Int} {L : Nat → Nat → Int64} (hR : Rl I L) : x_PQ sc xN_G_told [xr 0, xi 12] xN_m_told [xr 143, xi 12] (xSH, I, L) := by
  obtain ⟨⟨hNs, hNo, hNa, hNb, hNr, hNd, hNg, hNe, hNp, hNk⟩, hI, hT, hX, hC, hH, hQ⟩ := id hR
  have hs := hNs
  unfold RNs at hs
  have hd := hNd 2 (by decide)
  refine x_CQ.of (M := xM_G_told) rfl (Nat.le_of_ble_eq_true rfl) ?_
  refine ex_st 3 (pc' := 4) (ls' := [(0, xr 0), (1, xi 12)]) (st' := [xi 2]) rfl ?_
  refine ex_call (ct_G_isThing2 (by omega)) (by decide) rfl ⟨rfl, rfl, rfl⟩ ⟨Nat.le_of_ble_eq_true rfl, rfl, rfl⟩ (Nat.le_of_ble_eq_true rfl) rfl ?_
  refine ex_beq rfl (fun h0 => ?_) (fun h0 => ?_)
  · exfalso; omega
  · refine ex_st 6 (pc' := 21) (ls' := [(0, xr 0), (1, xi 12)]) (st' := [xi 2, xr 3]) rfl ?_
    refine ex_iald (j := 2) rfl (by decide) (rfl : xSH[3]? = some _) (by decide) (by decide) (by decide) ?_
    refine ex_reti rfl rfl ?_
    refine x_CQ.of (M := xM_m_told) rfl (Nat.le_of_ble_eq_true rfl) ?_
    refine ex_st 4 (pc' := 6) (ls' := [(0, xr 143), (1, xi 12)]) (st' := [xi 14, xi 10, xi 12, xr 143]) rfl ?_
    refine ex_call (ct_m_in (by first | omega | (constructor <;> omega) | assumption) (by first | omega | (constructor <;> omega) | assumption) (by first | omega | (constructor <;> omega) | assumption)) (by decide) rfl ⟨rfl, rfl, rfl⟩ ⟨Nat.le_of_ble_eq_true rfl, rfl, rfl⟩ (Nat.le_of_ble_eq_true rfl) rfl ?_
    refine ex_beq rfl (fun h1 => ?_) (fun h1 => ?_)
    · exfalso; omega
    · refine ex_st 5 (pc' := 20) (ls' := [(0, xr 143), (1, xi 12)]) (st' := [xi 2, xr 149]) rfl ?_
      refine ex_iald (j := 2) rfl (by decide) (rfl : xSH[149]? = some _) (by decide) (by decide) (by decide) ?_
      refine ex_reti rfl rfl ?_
      exact ⟨x_req (by first | rfl | omega), _, _, rfl, hR⟩
theorem op_told_13 {sc : List Int} {I : Nat → Nat → Int} {L : Nat → Nat → Int64} (hR : Rl I L) : x_PQ sc xN_G_told [xr 0, xi 13] xN_m_told [xr 143, xi 13] (xSH, I, L) := by
  obtain ⟨⟨hNs, hNo, hNa, hNb, hNr, hNd, hNg, hNe, hNp, hNk⟩, hI, hT, hX, hC, hH, hQ⟩ := id hR
  have hs := hNs
  unfold RNs at hs
  have hd := hNd 3 (by decide)
  refine x_CQ.of (M := xM_G_told) rfl (Nat.le_of_ble_eq_true rfl) ?_
  refine ex_st 3 (pc' := 4) (ls' := [(0, xr 0), (1, xi 13)]) (st' := [xi 3]) rfl ?_
  refine ex_call (ct_G_isThing2 (by omega)) (by decide) rfl ⟨rfl, rfl, rfl⟩ ⟨Nat.le_of_ble_eq_true rfl, rfl, rfl⟩ (Nat.le_of_ble_eq_true rfl) rfl ?_
  refine ex_beq rfl (fun h0 => ?_) (fun h0 => ?_)
  · exfalso; omega
  · refine ex_st 6 (pc' := 21) (ls' := [(0, xr 0), (1, xi 13)]) (st' := [xi 3, xr 3]) rfl ?_
    refine ex_iald (j := 3) rfl (by decide) (rfl : xSH[3]? = some _) (by decide) (by decide) (by decide) ?_
    refine ex_reti rfl rfl ?_
    refine x_CQ.of (M := xM_m_told) rfl (Nat.le_of_ble_eq_true rfl) ?_
    refine ex_st 4 (pc' := 6) (ls' := [(0, xr 143), (1, xi 13)]) (st' := [xi 14, xi 10, xi 13, xr 143]) rfl ?_
    refine ex_call (ct_m_in (by first | omega | (constructor <;> omega) | assumption) (by first | omega | (constructor <;> omega) | assumption) (by first | omega | (constructor <;> omega) | assumption)) (by decide) rfl ⟨rfl, rfl, rfl⟩ ⟨Nat.le_of_ble_eq_true rfl, rfl, rfl⟩ (Nat.le_of_ble_eq_true rfl) rfl ?_
    refine ex_beq rfl (fun h1 => ?_) (fun h1 => ?_)
    · exfalso; omega
    · refine ex_st 5 (pc' := 20) (ls' := [(0, xr 143), (1, xi 13)]) (st' := [xi 3, xr 149]) rfl ?_
      refine ex_iald (j := 3) rfl (by decide) (rfl : xSH[149]? = some _) (by decide) (by decide) (by decide) ?_
      refine ex_reti rfl rfl ?_
      exact ⟨x_req (by first | rfl | omega), _, _, rfl, hR⟩
theorem op_told_14 {sc : List Int} {I : Nat → Nat → Int} {L : Nat → Nat → Int64} (hR : Rl I L) : x_PQ sc xN_G_told [xr 0, xi 14] xN_m_told [xr 143, xi 14] (xSH, I, L) := by
  obtain ⟨⟨hNs, hNo, hNa, hNb, hNr, hNd, hNg, hNe, hNp, hNk⟩, hI, hT, hX, hC, hH, hQ⟩ := id hR
  have hs := hNs
  unfold RNs at hs
  have hd := hNd 4 (by decide)
  refine x_CQ.of (M := xM_G_told) rfl (Nat.le_of_ble_eq_true rfl) ?_
  refine ex_st 3 (pc' := 4) (ls' := [(0, xr 0), (1, xi 14)]) (st' := [xi 4]) rfl ?_
  refine ex_call (ct_G_isThing2 (by omega)) (by decide) rfl ⟨rfl, rfl, rfl⟩ ⟨Nat.le_of_ble_eq_true rfl, rfl, rfl⟩ (Nat.le_of_ble_eq_true rfl) rfl ?_
  refine ex_beq rfl (fun h0 => ?_) (fun h0 => ?_)
  · exfalso; omega
  · refine ex_st 6 (pc' := 21) (ls' := [(0, xr 0), (1, xi 14)]) (st' := [xi 4, xr 3]) rfl ?_
    refine ex_iald (j := 4) rfl (by decide) (rfl : xSH[3]? = some _) (by decide) (by decide) (by decide) ?_
    refine ex_reti rfl rfl ?_
    refine x_CQ.of (M := xM_m_told) rfl (Nat.le_of_ble_eq_true rfl) ?_
    refine ex_st 4 (pc' := 6) (ls' := [(0, xr 143), (1, xi 14)]) (st' := [xi 14, xi 10, xi 14, xr 143]) rfl ?_
    refine ex_call (ct_m_in (by first | omega | (constructor <;> omega) | assumption) (by first | omega | (constructor <;> omega) | assumption) (by first | omega | (constructor <;> omega) | assumption)) (by decide) rfl ⟨rfl, rfl, rfl⟩ ⟨Nat.le_of_ble_eq_true rfl, rfl, rfl⟩ (Nat.le_of_ble_eq_true rfl) rfl ?_
    refine ex_beq rfl (fun h1 => ?_) (fun h1 => ?_)
    · exfalso; omega
    · refine ex_st 5 (pc' := 20) (ls' := [(0, xr 143), (1, xi 14)]) (st' := [xi 4, xr 149]) rfl ?_
      refine ex_iald (j := 4) rfl (by decide) (rfl : xSH[149]? = some _) (by decide) (by decide) (by decide) ?_
      refine ex_reti rfl rfl ?_
      exact ⟨x_req (by first | rfl | omega), _, _, rfl, hR⟩
theorem op_told_x {sc : List Int} {I : Nat → Nat → Int} {L : Nat → Nat → Int64} (hR : Rl I L) {x : Int} (hx : x_R x) (h : ¬ (0 ≤ x ∧ x < 7) ∧ ¬ (10 ≤ x ∧ x < 15)) : x_PQ sc xN_G_told [xr 0, xi x] xN_m_told [xr 143, xi x] (xSH, I, L) := by
  obtain ⟨⟨hNs, hNo, hNa, hNb, hNr, hNd, hNg, hNe, hNp, hNk⟩, hI, hT, hX, hC, hH, hQ⟩ := id hR
  have hs := hNs
  unfold RNs at hs
  refine x_CQ.of (M := xM_G_told) rfl (Nat.le_of_ble_eq_true rfl) ?_
  refine ex_st 3 (pc' := 4) (ls' := [(0, xr 0), (1, xi x)]) (st' := [xi (x - 10)]) rfl ?_
  refine ex_call (ct_G_isThing2 (by omega)) (by decide) rfl ⟨rfl, rfl, rfl⟩ ⟨Nat.le_of_ble_eq_true rfl, rfl, rfl⟩ (Nat.le_of_ble_eq_true rfl) rfl ?_
  refine ex_beq rfl (fun h0 => ?_) (fun h0 => ?_)
  · refine ex_st 1 (pc' := 24) (ls' := [(0, xr 0), (1, xi x)]) (st' := [xi x]) rfl ?_
    by_cases h1 : (x : Int) = 0
    · exfalso; omega
    by_cases h2 : (x : Int) = 1
    · exfalso; omega
    by_cases h3 : (x : Int) = 2
    · exfalso; omega
    by_cases h4 : (x : Int) = 3
    · exfalso; omega
    by_cases h5 : (x : Int) = 4
    · exfalso; omega
    by_cases h6 : (x : Int) = 5
    · exfalso; omega
    by_cases h7 : (x : Int) = 6
    · exfalso; omega
    refine ex_tsd rfl (by first | omega | (constructor <;> omega) | assumption) (by omega) ?_
    refine ex_st 1 (pc' := 142) (ls' := [(0, xr 0), (1, xi x)]) (st' := [xi (-1)]) rfl ?_
    refine ex_reti rfl rfl ?_
    refine x_CQ.of (M := xM_m_told) rfl (Nat.le_of_ble_eq_true rfl) ?_
    refine ex_st 4 (pc' := 6) (ls' := [(0, xr 143), (1, xi x)]) (st' := [xi 14, xi 10, xi x, xr 143]) rfl ?_
    refine ex_call (ct_m_in (by first | omega | (constructor <;> omega) | assumption) (by first | omega | (constructor <;> omega) | assumption) (by first | omega | (constructor <;> omega) | assumption)) (by decide) rfl ⟨rfl, rfl, rfl⟩ ⟨Nat.le_of_ble_eq_true rfl, rfl, rfl⟩ (Nat.le_of_ble_eq_true rfl) rfl ?_
    refine ex_beq rfl (fun h8 => ?_) (fun h8 => ?_)
    · refine ex_st 1 (pc' := 23) (ls' := [(0, xr 143), (1, xi x)]) (st' := [xi x]) rfl ?_
      by_cases h9 : (x : Int) = 0
      · exfalso; omega
      by_cases h10 : (x : Int) = 1
      · exfalso; omega
      by_cases h11 : (x : Int) = 2
      · exfalso; omega
      by_cases h12 : (x : Int) = 3
      · exfalso; omega
      by_cases h13 : (x : Int) = 4
      · exfalso; omega
      by_cases h14 : (x : Int) = 5
      · exfalso; omega
      by_cases h15 : (x : Int) = 6
      · exfalso; omega
      refine ex_tsd rfl (by first | omega | (constructor <;> omega) | assumption) (by omega) ?_
      refine ex_st 1 (pc' := 100) (ls' := [(0, xr 143), (1, xi x)]) (st' := [xi (-1)]) rfl ?_
      refine ex_reti rfl rfl ?_
      exact ⟨x_req (by first | rfl | omega), _, _, rfl, hR⟩
    · exfalso; omega
  · exfalso; omega
theorem op_told {sc : List Int} {I : Nat → Nat → Int} {L : Nat → Nat → Int64} (hR : Rl I L) {x : Int} (hx : x_R x) : x_PQ sc xN_G_told [xr 0, xi x] xN_m_told [xr 143, xi x] (xSH, I, L) := by
  by_cases h : ¬ (0 ≤ x ∧ x < 7) ∧ ¬ (10 ≤ x ∧ x < 15)
  · exact op_told_x hR hx h
  · rcases (show x = 0 ∨ x = 1 ∨ x = 2 ∨ x = 3 ∨ x = 4 ∨ x = 5 ∨ x = 6 ∨ x = 10 ∨ x = 11 ∨ x = 12 ∨ x = 13 ∨ x = 14 by omega) with rfl | rfl | rfl | rfl | rfl | rfl | rfl | rfl | rfl | rfl | rfl | rfl
    · exact op_told_0 hR
    · exact op_told_1 hR
    · exact op_told_2 hR
    · exact op_told_3 hR
    · exact op_told_4 hR
    · exact op_told_5 hR
    · exact op_told_6 hR
    · exact op_told_10 hR
    · exact op_told_11 hR
    · exact op_told_12 hR
    · exact op_told_13 hR
    · exact op_told_14 hR
