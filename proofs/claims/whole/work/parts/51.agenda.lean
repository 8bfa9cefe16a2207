/-! pairs of calls: agenda, bribe -/
theorem lp_mag {sc : List Int} {I : Nat → Nat → Int} {L : Nat → Nat → Int64} {B : Nat → Nat → Bool} (hB : BMm I B) {x : Int} (hx : x_R x) {k : Nat} (hk : k < 5) (i : Nat) (hi : i ≤ 3125) : x_Ex sc 29 xM_m_agenda 26 [(3, xi (↑i)), (0, xr 143), (1, xi x), (2, xi (↑k))] [] (xSH, I, L) (fun r m' => r = some (xi (sp_mplace B x k (3125 - i) i)) ∧ ∃ I', m' = (xSH, I', L) ∧ ∀ k j, k ≠ 164 → I' k j = I k j) := by
  have hdl0 := sp_dn_lt (B := B) (g := sp_tn i) (N := 5) (fun k hk => sp_tn_lt i k) 4 (by decide)
  refine ex_st 2 (pc' := 30) (ls' := [(3, xi (↑i)), (0, xr 143), (1, xi x), (2, xi (↑k))]) (st' := [xi 3125, xi (↑i)]) rfl ?_
  refine ex_ic rfl (by first | exact hx | omega | (constructor <;> omega) | assumption | exact x_bR _) (by decide) (fun (h0 : ((3125 : Int)) ≤ (↑i : Int)) => ?_) (fun (h0 : ¬ ((3125 : Int)) ≤ (↑i : Int)) => ?_)
  · refine ex_st 1 (pc' := 64) (ls' := [(3, xi (↑i)), (0, xr 143), (1, xi x), (2, xi (↑k))]) (st' := [xi (-5)]) rfl ?_
    refine ex_reti rfl rfl ?_
    obtain rfl : i = 3125 := by omega
    exact ⟨rfl, I, rfl, fun _ _ _ => rfl⟩
  · refine ex_st 2 (pc' := 35) (ls' := [(3, xi (↑i)), (0, xr 143), (1, xi x), (2, xi (↑k))]) (st' := [xi (↑i), xr 143]) rfl ?_
    refine ex_callQ (ct_m_layTurn (L := L) (v := i) (by omega)) (by decide) rfl ⟨rfl, rfl, rfl⟩ ⟨Nat.le_of_ble_eq_true rfl, rfl, rfl⟩ (Nat.le_of_ble_eq_true rfl) rfl (fun ra m2 hQ => ?_)
    obtain ⟨rfl, I1, rfl, t1, t2⟩ := hQ
    refine ex_beq rfl (fun h1 => ?_) (fun h1 => ?_)
    · refine ex_st 2 (pc' := 26) (ls' := [(3, xi ((↑i) + 1)), (0, xr 143), (1, xi x), (2, xi (↑k))]) (st' := []) rfl ?_
      have hdl := sp_dn_lt (B := B) (g := sp_tn i) (N := 5) (fun k hk => sp_tn_lt i k) 4 (by decide)
      have h9 := lp_mag (sc := sc) (L := L) (hB.fr (fun j => t1 _ _ (by decide))) hx hk (i + 1) (by omega)
      rw [show sp_mplace B x k (3125 - i) i = sp_mplace B x k (3125 - (i + 1)) (i + 1) from by rw [show 3125 - i = (3125 - (i + 1)) + 1 by omega]; show (if _ then _ else _) = _; rw [if_neg (by intro q; first | exact absurd q.1 (by assumption) | omega)]]
      refine x_Ex.mono h9 (fun r m' h => ?_)
      obtain ⟨h1, I2, h2, h3⟩ := h
      exact ⟨h1, I2, h2, fun k j hk => by rw [h3 k j hk]; exact t1 k j hk⟩
    · refine ex_st 1 (pc' := 42) (ls' := [(3, xi (↑i)), (0, xr 143), (1, xi x), (2, xi (↑k))]) (st' := [xr 143]) rfl ?_
      refine ex_call (ct_m_doneByTurn (hB.fr (fun j => t1 _ _ (by decide))) (g := sp_tn i) (fun k hk => ⟨t2 (by assumption) k hk, sp_tn_lt i k⟩)) (by decide) rfl ⟨rfl, rfl, rfl⟩ ⟨Nat.le_of_ble_eq_true rfl, rfl, rfl⟩ (Nat.le_of_ble_eq_true rfl) rfl ?_
      refine ex_st 1 (pc' := 46) (ls' := [(3, xi (↑i)), (0, xr 143), (1, xi x), (2, xi (↑k))]) (st' := [xi x, xi (↑(sp_dn B (sp_tn i) 4))]) rfl ?_
      refine ex_ic rfl (by first | exact hx | omega | (constructor <;> omega) | assumption | exact x_bR _) (by first | exact hx | omega | (constructor <;> omega) | assumption | exact x_bR _) (fun (h2 : ¬ (↑(sp_dn B (sp_tn i) 4) : Int) = x) => ?_) (fun (h2 : ¬ ¬ (↑(sp_dn B (sp_tn i) 4) : Int) = x) => ?_)
      · refine ex_st 2 (pc' := 26) (ls' := [(3, xi ((↑i) + 1)), (0, xr 143), (1, xi x), (2, xi (↑k))]) (st' := []) rfl ?_
        have hdl := sp_dn_lt (B := B) (g := sp_tn i) (N := 5) (fun k hk => sp_tn_lt i k) 4 (by decide)
        have h9 := lp_mag (sc := sc) (L := L) (hB.fr (fun j => t1 _ _ (by decide))) hx hk (i + 1) (by omega)
        rw [show sp_mplace B x k (3125 - i) i = sp_mplace B x k (3125 - (i + 1)) (i + 1) from by rw [show 3125 - i = (3125 - (i + 1)) + 1 by omega]; show (if _ then _ else _) = _; rw [if_neg (by intro q; first | exact absurd q.1 (by assumption) | omega)]]
        refine x_Ex.mono h9 (fun r m' h => ?_)
        obtain ⟨h1, I2, h2, h3⟩ := h
        exact ⟨h1, I2, h2, fun k j hk => by rw [h3 k j hk]; exact t1 k j hk⟩
      · refine ex_st 3 (pc' := 54) (ls' := [(3, xi (↑i)), (0, xr 143), (1, xi x), (2, xi (↑k))]) (st' := [xi (↑k), xr 164]) rfl ?_
        refine ex_iald (j := k) rfl (by decide) (rfl : xSH[164]? = some _) (by omega) (by omega) (by decide) ?_
        rw [(t2 (by assumption) k hk)]
        refine ex_reti rfl rfl ?_
        have hdl := sp_dn_lt (B := B) (g := sp_tn i) (N := 5) (fun k hk => sp_tn_lt i k) 4 (by decide)
        refine ⟨?_, I1, rfl, t1⟩
        rw [show 3125 - i = (3125 - (i + 1)) + 1 by omega]; show _ = some (xi (if _ then _ else _)); rw [if_pos ⟨by assumption, by omega⟩]
termination_by 3125 - i
decreasing_by all_goals (omega)
set_option maxRecDepth 8000 in
set_option maxHeartbeats 2000000 in
theorem op_agenda {sc : List Int} {I : Nat → Nat → Int} {L : Nat → Nat → Int64} (hR : Rl I L) {x y : Int} (hx : x_R x) (hy : x_R y) : x_PQ sc xN_G_agenda [xr 0, xi x, xi y] xN_m_agenda [xr 143, xi x, xi y] (xSH, I, L) := by
  obtain ⟨⟨hNs, hNo, hNa, hNb, hNr, hNd, hNg, hNe, hNp, hNk⟩, hI, hT, hX, hC, hH, hQ⟩ := id hR
  have hs := hNs
  unfold RNs at hs
  obtain ⟨c, kd, vv, vo, aw, ba, ro, egg, se, hWW, hM⟩ := hR.vw
  have hT2 := hT
  unfold RT at hT2
  obtain ⟨T, nn, cc, cd, we, en, qv, hXt⟩ := RT.tr hT (t := I 143 13) (by omega) (by omega)
  have hX2 := id hXt
  obtain ⟨u1, u2, u3, u4, u5, u6, u7, u8, u9, u10⟩ := hX2
  have hMT := u10 rfl
  obtain ⟨g, hg1, hg, hgs, hgp⟩ := hM.pres
  have hI17 : I 1 7 = I 143 13 := by omega
  have hs64 := sp_mask64 (sp_nz aw) (n := c) (by have := hWW.2.1; omega)
  have hsN : sp_mask (sp_nz aw) c = (((sp_mask (sp_nz aw) c).toNat : Nat) : Int) := by have := (sp_mask_bd (sp_nz aw) c).1; omega
  obtain ⟨hg_1, hg_2, hg_3, hg_4, hg_5, hg_6⟩ := id hNg
  obtain ⟨n, hn⟩ := Int.eq_ofNat_of_zero_le hg_2
  obtain ⟨ag, hag0⟩ : ∃ ag : Nat → Nat, ∀ k, ag k = (I 150 k).toNat := ⟨_, fun _ => rfl⟩
  have hag : ∀ k, k < n → I 150 k = (ag k : Int) ∧ ag k < 5 := fun k hk => by have h1 := hg_5 k (by omega); have h2 := hag0 k; omega
  have hvo : ∀ p, p < c → 0 ≤ vo p ∧ vo p ≤ 9 := fun p hp => (hM.2.2.2.2.2.2.2 p hp).2.2.2.2.2.1
  by_cases hv : (0 ≤ x ∧ x < 5) ∧ (0 ≤ y ∧ y < 5)
  · obtain ⟨p, rfl⟩ := Int.eq_ofNat_of_zero_le hv.1.1
    obtain ⟨q, rfl⟩ := Int.eq_ofNat_of_zero_le hv.2.1
    refine x_CQ.of (M := xM_G_agenda) rfl (Nat.le_of_ble_eq_true rfl) ?_
    refine ex_st 1 (pc' := 1) (ls' := [(0, xr 0), (1, xi (↑p)), (2, xi (↑q))]) (st' := [xi (↑p)]) rfl ?_
    refine ex_call (ct_G_isThing (by first | omega | (constructor <;> omega) | assumption)) (by decide) rfl ⟨rfl, rfl, rfl⟩ ⟨Nat.le_of_ble_eq_true rfl, rfl, rfl⟩ (Nat.le_of_ble_eq_true rfl) rfl ?_
    refine ex_beq rfl (fun h0 => ?_) (fun h0 => ?_)
    · exfalso; omega
    · refine ex_st 1 (pc' := 8) (ls' := [(0, xr 0), (1, xi (↑p)), (2, xi (↑q))]) (st' := [xi (↑q)]) rfl ?_
      refine ex_call (ct_G_isThing (by first | omega | (constructor <;> omega) | assumption)) (by decide) rfl ⟨rfl, rfl, rfl⟩ ⟨Nat.le_of_ble_eq_true rfl, rfl, rfl⟩ (Nat.le_of_ble_eq_true rfl) rfl ?_
      refine ex_bne rfl (fun h1 => ?_) (fun h1 => ?_)
      · refine ex_st 3 (pc' := 21) (ls' := [(0, xr 0), (1, xi (↑p)), (2, xi (↑q))]) (st' := [xr 1, xr 0]) rfl ?_
        refine ex_callQ (ct_G_ballotOf (L := L) WS.mk1 hWW u2 u3 u4 u5 u6 u7 u8 hI17 u9 u1) (by decide) rfl ⟨rfl, rfl, rfl⟩ ⟨Nat.le_of_ble_eq_true rfl, rfl, rfl⟩ (Nat.le_of_ble_eq_true rfl) rfl (fun ra m2 hQ => ?_)
        obtain ⟨rfl, J, rfl, hJ, hBW, hP, hBM⟩ := hQ
        rw [hsN] at hP
        refine ex_st 2 (pc' := 26) (ls' := [(0, xr 0), (1, xi (↑p)), (2, xi (↑q))]) (st' := [xi (↑q), xi (↑p), xr 92]) rfl ?_
        refine ex_callQ (ct_B_placeInFirstRowFor hBM (x := ((p : Nat) : Int)) (k := q) (by constructor <;> omega) (by omega)) (by decide) rfl ⟨rfl, rfl, rfl⟩ ⟨Nat.le_of_ble_eq_true rfl, rfl, rfl⟩ (Nat.le_of_ble_eq_true rfl) rfl (fun ra m2 hQ => ?_)
        obtain ⟨rfl, J2, rfl, hJ3⟩ := hQ
        have hJ2 : ∀ k j, k < 92 ∨ 103 < k → J2 k j = I k j := fun k j hk => by rw [hJ3 _ _ (by omega), hJ _ _ (by omega)]
        refine ex_reti rfl rfl ?_
        refine x_CQ.of (M := xM_m_agenda) rfl (Nat.le_of_ble_eq_true rfl) ?_
        refine ex_st 2 (pc' := 2) (ls' := [(0, xr 143), (1, xi (↑p)), (2, xi (↑q))]) (st' := [xi (↑p), xr 143]) rfl ?_
        refine ex_call (ct_m_isThing (by first | omega | (constructor <;> omega) | assumption)) (by decide) rfl ⟨rfl, rfl, rfl⟩ ⟨Nat.le_of_ble_eq_true rfl, rfl, rfl⟩ (Nat.le_of_ble_eq_true rfl) rfl ?_
        refine ex_beq rfl (fun h2 => ?_) (fun h2 => ?_)
        · exfalso; omega
        · refine ex_st 4 (pc' := 12) (ls' := [(0, xr 143), (1, xi (↑p)), (2, xi (↑q))]) (st' := [xi 4, xi 0, xi (↑q), xr 143]) rfl ?_
          refine ex_call (ct_m_in (by first | omega | (constructor <;> omega) | assumption) (by first | omega | (constructor <;> omega) | assumption) (by first | omega | (constructor <;> omega) | assumption)) (by decide) rfl ⟨rfl, rfl, rfl⟩ ⟨Nat.le_of_ble_eq_true rfl, rfl, rfl⟩ (Nat.le_of_ble_eq_true rfl) rfl ?_
          refine ex_bne rfl (fun h3 => ?_) (fun h3 => ?_)
          · refine ex_st 1 (pc' := 21) (ls' := [(0, xr 143), (1, xi (↑p)), (2, xi (↑q))]) (st' := [xr 143]) rfl ?_
            have hMx := hM.fr2 (I' := J2) (fun k j a b => hJ2 k j (by omega))
            have hTx := hMT.fr2 (I' := J2) (fun k j a b => hJ2 k j (by omega))
            have hgx : J2 143 1 = (g : Int) := by rw [hJ2 _ _ (by omega)]; exact hg1
            have hnx : J2 143 2 = (n : Int) := by rw [hJ2 _ _ (by omega)]; exact hn
            have hagx : ∀ k, k < n → J2 150 k = (ag k : Int) ∧ ag k < 5 := fun k hk => by rw [hJ2 _ _ (by omega)]; exact hag k hk
            have hXI : ∀ k j, ¬ (92 ≤ k ∧ k ≤ 103) → J2 k j = I k j := fun k j hk => hJ2 k j (by omega)
            refine ex_callQ (ct_m_layBeats (L := L) hMx hTx hgx hg hgs) (by decide) rfl ⟨rfl, rfl, rfl⟩ ⟨Nat.le_of_ble_eq_true rfl, rfl, rfl⟩ (Nat.le_of_ble_eq_true rfl) rfl (fun ra m2 hQ => ?_)
            obtain ⟨rfl, K, rfl, hBK, hLK, hK⟩ := hQ
            have hKI : ∀ k j, ¬ (92 ≤ k ∧ k ≤ 103) → ¬ x_ms k j → K k j = I k j := fun k j h1 h2 => by rw [hK _ _ (by first | exact h2 | (unfold x_ms at h2; omega)), hXI _ _ h1]
            have hMK := hM.fr2 (I' := K) (fun k j a b => hKI k j (by omega) (by unfold x_ms; omega))
            have hTK := hMT.fr2 (I' := K) (fun k j a b => hKI k j (by omega) (by unfold x_ms; omega))
            have hgK : K 143 1 = (g : Int) := by rw [hKI _ _ (by omega) (by unfold x_ms; omega)]; exact hg1
            refine ex_st 2 (pc' := 26) (ls' := [(3, xi 0), (0, xr 143), (1, xi (↑p)), (2, xi (↑q))]) (st' := []) rfl ?_
            refine x_Ex.mono (lp_mag hBK (x := ((p : Nat) : Int)) (k := q) (by constructor <;> omega) (by omega) 0 (by decide)) (fun r m' h => ?_)
            obtain ⟨rfl, K2, rfl, hK2⟩ := h
            rw [show 3125 - 0 = 3125 from rfl, sp_mplace_eq _ _ (by omega)]
            exact ⟨x_req (by first | rfl | omega), _, _, rfl, hR.fr (fun k j hk => by rw [hK2 _ _ (by unfold x_scr at hk; omega)]; exact hKI k j (by unfold x_scr at hk; omega) (by unfold x_scr at hk; unfold x_ms; omega)) (fun _ _ => rfl)⟩
          · exfalso; omega
      · exfalso; omega
  refine x_CQ.of (M := xM_G_agenda) rfl (Nat.le_of_ble_eq_true rfl) ?_
  refine ex_st 1 (pc' := 1) (ls' := [(0, xr 0), (1, xi x), (2, xi y)]) (st' := [xi x]) rfl ?_
  refine ex_call (ct_G_isThing (by first | omega | (constructor <;> omega) | assumption)) (by decide) rfl ⟨rfl, rfl, rfl⟩ ⟨Nat.le_of_ble_eq_true rfl, rfl, rfl⟩ (Nat.le_of_ble_eq_true rfl) rfl ?_
  refine ex_beq rfl (fun h0 => ?_) (fun h0 => ?_)
  · refine ex_st 1 (pc' := 15) (ls' := [(0, xr 0), (1, xi x), (2, xi y)]) (st' := [xi (-1)]) rfl ?_
    refine ex_reti rfl rfl ?_
    refine x_CQ.of (M := xM_m_agenda) rfl (Nat.le_of_ble_eq_true rfl) ?_
    refine ex_st 2 (pc' := 2) (ls' := [(0, xr 143), (1, xi x), (2, xi y)]) (st' := [xi x, xr 143]) rfl ?_
    refine ex_call (ct_m_isThing (by first | omega | (constructor <;> omega) | assumption)) (by decide) rfl ⟨rfl, rfl, rfl⟩ ⟨Nat.le_of_ble_eq_true rfl, rfl, rfl⟩ (Nat.le_of_ble_eq_true rfl) rfl ?_
    refine ex_beq rfl (fun h1 => ?_) (fun h1 => ?_)
    · refine ex_st 1 (pc' := 19) (ls' := [(0, xr 143), (1, xi x), (2, xi y)]) (st' := [xi (-1)]) rfl ?_
      refine ex_reti rfl rfl ?_
      exact ⟨x_req (by first | rfl | omega), _, _, rfl, hR⟩
    · exfalso; omega
  · refine ex_st 1 (pc' := 8) (ls' := [(0, xr 0), (1, xi x), (2, xi y)]) (st' := [xi y]) rfl ?_
    refine ex_call (ct_G_isThing (by first | omega | (constructor <;> omega) | assumption)) (by decide) rfl ⟨rfl, rfl, rfl⟩ ⟨Nat.le_of_ble_eq_true rfl, rfl, rfl⟩ (Nat.le_of_ble_eq_true rfl) rfl ?_
    refine ex_bne rfl (fun h2 => ?_) (fun h2 => ?_)
    · exfalso; omega
    · refine ex_st 1 (pc' := 15) (ls' := [(0, xr 0), (1, xi x), (2, xi y)]) (st' := [xi (-1)]) rfl ?_
      refine ex_reti rfl rfl ?_
      refine x_CQ.of (M := xM_m_agenda) rfl (Nat.le_of_ble_eq_true rfl) ?_
      refine ex_st 2 (pc' := 2) (ls' := [(0, xr 143), (1, xi x), (2, xi y)]) (st' := [xi x, xr 143]) rfl ?_
      refine ex_call (ct_m_isThing (by first | omega | (constructor <;> omega) | assumption)) (by decide) rfl ⟨rfl, rfl, rfl⟩ ⟨Nat.le_of_ble_eq_true rfl, rfl, rfl⟩ (Nat.le_of_ble_eq_true rfl) rfl ?_
      refine ex_beq rfl (fun h3 => ?_) (fun h3 => ?_)
      · exfalso; omega
      · refine ex_st 4 (pc' := 12) (ls' := [(0, xr 143), (1, xi x), (2, xi y)]) (st' := [xi 4, xi 0, xi y, xr 143]) rfl ?_
        refine ex_call (ct_m_in (by first | omega | (constructor <;> omega) | assumption) (by first | omega | (constructor <;> omega) | assumption) (by first | omega | (constructor <;> omega) | assumption)) (by decide) rfl ⟨rfl, rfl, rfl⟩ ⟨Nat.le_of_ble_eq_true rfl, rfl, rfl⟩ (Nat.le_of_ble_eq_true rfl) rfl ?_
        refine ex_bne rfl (fun h4 => ?_) (fun h4 => ?_)
        · exfalso; omega
        · refine ex_st 1 (pc' := 19) (ls' := [(0, xr 143), (1, xi x), (2, xi y)]) (st' := [xi (-1)]) rfl ?_
          refine ex_reti rfl rfl ?_
          exact ⟨x_req (by first | rfl | omega), _, _, rfl, hR⟩
theorem z_oo : ∀ a : Nat, a < 64 → ∀ b : Nat, b < 64 → z_or (↑a) (↑b) = ((a ||| b : Nat) : Int) ∧ a ||| b < 64 := by decide +kernel
theorem z_wob : ∀ s : Nat, s < 64 → ∀ i : Nat, i < 64 → ∀ p : Nat, p < 6 → (sp_wo s i).testBit p = (s.testBit p && !i.testBit p) := by decide +kernel
theorem sp_few_inv {lk : Nat → Nat → Int} {vt : Nat → Int} {q : Int} {c p a : Nat} : ∀ n, ((sp_few lk vt q c p a n).1 = -5 ∧ (sp_few lk vt q c p a n).2 = 7) ∨ ∃ m : Nat, m < n ∧ (sp_few lk vt q c p a n).1 = (m : Int) ∧ (sp_few lk vt q c p a n).2 = sp_bc m
  | 0 => Or.inl ⟨rfl, rfl⟩
  | n + 1 => by
    simp only [sp_few]
    split
    · exact Or.inr ⟨n, by omega, rfl, rfl⟩
    · rcases sp_few_inv (lk := lk) (vt := vt) (q := q) (c := c) (p := p) (a := a) n with h | ⟨m, h1, h2⟩
      · exact Or.inl h
      · exact Or.inr ⟨m, by omega, h2⟩
theorem lp_mbr {sc : List Int} {I : Nat → Nat → Int} {L : Nat → Nat → Int64} {c : Nat} {kd : Nat → Nat} {vv vo aw : Nat → Int} {ba ro : Nat → Nat → Int} {egg : Int} {se : Nat} (hM : MW I c kd vv vo aw ba ro egg se) {cc : Nat} {cd we : Nat → Int} {en : Nat → Nat} {qv : Int} (hT : MT I cc cd we en qv) {lk : Nat → Nat → Int} (hL : LKm I c lk) {s g : Nat} (hs64 : s < 64) (hg : g < 64) (hs : ∀ p, p < c → s.testBit p = !g.testBit p) (hg1 : I 143 1 = (g : Int)) {x : Nat} (hx : x < 5) (i : Nat) (hi : i ≤ sp_pw c) (fo : Int) (hfo : fo = (sp_few lk vo qv c s x i).1) : x_Ex sc 29 xM_m_bribe 19 [(3, xi (↑i)), (2, xi fo), (0, xr 143), (1, xi (↑x))] [] (xSH, I, L) (fun r m' => r = some (xi (sp_few lk vo qv c s x (sp_pw c)).1) ∧ m' = (xSH, I, L)) := by
  obtain ⟨hc, hc6, hegg, hegb, hse, hse5, hab, hp8⟩ := id hM
  have hpw := z_pw c (by omega)
  have hinv := sp_few_inv (lk := lk) (vt := vo) (q := qv) (c := c) (p := s) (a := x) i
  have hb6 := sp_bc_le i
  refine ex_st 4 (pc' := 25) (ls' := [(3, xi (↑i)), (2, xi fo), (0, xr 143), (1, xi (↑x))]) (st' := [xi (I 143 0), xi 1, xi (↑i)]) rfl ?_
  rw [hc]
  refine ex_st 1 (pc' := 26) (ls' := [(3, xi (↑i)), (2, xi fo), (0, xr 143), (1, xi (↑x))]) (st' := [xi (z_shl 1 (↑c)), xi (↑i)]) rfl ?_
  rw [hpw.1]
  refine ex_ic rfl (by first | omega | (constructor <;> omega) | assumption | exact x_bR _) (by first | omega | (constructor <;> omega) | assumption | exact x_bR _) (fun (h0 : (↑(sp_pw c) : Int) ≤ (↑i : Int)) => ?_) (fun (h0 : ¬ (↑(sp_pw c) : Int) ≤ (↑i : Int)) => ?_)
  · refine ex_st 1 (pc' := 76) (ls' := [(3, xi (↑i)), (2, xi fo), (0, xr 143), (1, xi (↑x))]) (st' := [xi fo]) rfl ?_
    refine ex_reti rfl rfl ?_
    obtain rfl : i = sp_pw c := by omega
    exact ⟨by rw [hfo], rfl⟩
  · refine ex_st 1 (pc' := 30) (ls' := [(3, xi (↑i)), (2, xi fo), (0, xr 143), (1, xi (↑x))]) (st' := [xi fo]) rfl ?_
    refine ex_if rfl (by first | omega | (constructor <;> omega) | assumption | exact x_bR _) (fun (h1 : fo < 0) => ?_) (fun (h1 : ¬ fo < 0) => ?_)
    · refine ex_st 4 (pc' := 55) (ls' := [(3, xi (↑i)), (2, xi fo), (0, xr 143), (1, xi (↑x))]) (st' := [xi (I 143 1), xi (↑x), xr 143]) rfl ?_
      rw [hg1]
      refine ex_st 2 (pc' := 57) (ls' := [(3, xi (↑i)), (2, xi fo), (0, xr 143), (1, xi (↑x))]) (st' := [xi (z_or (↑g) (↑i)), xi (↑x), xr 143]) rfl ?_
      rw [(z_oo g hg i (by omega)).1]
      refine ex_call (ct_m_beatsAll hM hT hL (s := sp_wo s i) (g := g ||| i) (z_oo g hg i (by omega)).2 (fun p hp => by rw [z_wob s hs64 i (by omega) p (by omega), hs p hp, Nat.testBit_or, Bool.not_or]) hx) (by decide) rfl ⟨rfl, rfl, rfl⟩ ⟨Nat.le_of_ble_eq_true rfl, rfl, rfl⟩ (Nat.le_of_ble_eq_true rfl) rfl ?_
      refine ex_beq rfl (fun h2 => ?_) (fun h2 => ?_)
      · refine ex_st 4 (pc' := 19) (ls' := [(3, xi ((↑i) + 1)), (2, xi fo), (0, xr 143), (1, xi (↑x))]) (st' := []) rfl ?_
        refine ex_pm [(3, xi (↑i + 1)), (2, xi (fo)), (0, xr 143), (1, xi (↑x))] (fun i => by rcases i with _ | _ | _ | _ | _ | _ | _ | _ | _ | i <;> first | (right; rfl) | (left; rfl)) ?_
        refine lp_mbr hM hT hL hs64 hg hs hg1 hx (i + 1) (by omega) _ ?_
        simp only [sp_few]
        have hno : ¬ (sp_bc i < (sp_few lk vo qv c s x i).2 ∧ sp_all lk vo qv c (sp_wo s i) x 5 = true) := by
          intro q
          rcases hinv with ⟨q1, q2⟩ | ⟨m, q1, q2, q3⟩
          · first | exact absurd q.2 (by assumption) | omega
          · exact absurd q.2 (by assumption)
        rw [if_neg hno]; exact hfo
      · refine ex_st 5 (pc' := 19) (ls' := [(3, xi ((↑i) + 1)), (2, xi (↑i)), (0, xr 143), (1, xi (↑x))]) (st' := []) rfl ?_
        refine ex_pm [(3, xi (↑i + 1)), (2, xi (↑i)), (0, xr 143), (1, xi (↑x))] (fun i => by rcases i with _ | _ | _ | _ | _ | _ | _ | _ | _ | i <;> first | (right; rfl) | (left; rfl)) ?_
        refine lp_mbr hM hT hL hs64 hg hs hg1 hx (i + 1) (by omega) _ ?_
        simp only [sp_few]
        have hyes : sp_bc i < (sp_few lk vo qv c s x i).2 := by
          rcases hinv with ⟨q1, q2⟩ | ⟨m, q1, q2, q3⟩
          · omega
          · exfalso; omega
        rw [if_pos ⟨hyes, by assumption⟩]
    · obtain ⟨fn, rfl⟩ := Int.eq_ofNat_of_zero_le (show 0 ≤ fo by omega)
      have hbf := sp_bc_le fn
      have hfn : fn < 64 := by rcases hinv with ⟨q1, q2⟩ | ⟨m, q1, q2, q3⟩ <;> omega
      refine ex_st 2 (pc' := 35) (ls' := [(3, xi (↑i)), (2, xi (↑fn)), (0, xr 143), (1, xi (↑x))]) (st' := [xi (↑i), xr 143]) rfl ?_
      refine ex_call (ct_m_bits (s := i) (by omega)) (by decide) rfl ⟨rfl, rfl, rfl⟩ ⟨Nat.le_of_ble_eq_true rfl, rfl, rfl⟩ (Nat.le_of_ble_eq_true rfl) rfl ?_
      refine ex_st 2 (pc' := 40) (ls' := [(3, xi (↑i)), (2, xi (↑fn)), (0, xr 143), (1, xi (↑x))]) (st' := [xi (↑fn), xr 143, xi (↑(sp_bc i))]) rfl ?_
      refine ex_call (ct_m_bits (s := fn) (by omega)) (by decide) rfl ⟨rfl, rfl, rfl⟩ ⟨Nat.le_of_ble_eq_true rfl, rfl, rfl⟩ (Nat.le_of_ble_eq_true rfl) rfl ?_
      refine ex_ic rfl (by first | omega | (constructor <;> omega) | assumption | exact x_bR _) (by first | omega | (constructor <;> omega) | assumption | exact x_bR _) (fun (h3 : (↑(sp_bc i) : Int) < (↑(sp_bc fn) : Int)) => ?_) (fun (h3 : ¬ (↑(sp_bc i) : Int) < (↑(sp_bc fn) : Int)) => ?_)
      · refine ex_st 4 (pc' := 55) (ls' := [(3, xi (↑i)), (2, xi (↑fn)), (0, xr 143), (1, xi (↑x))]) (st' := [xi (I 143 1), xi (↑x), xr 143]) rfl ?_
        rw [hg1]
        refine ex_st 2 (pc' := 57) (ls' := [(3, xi (↑i)), (2, xi (↑fn)), (0, xr 143), (1, xi (↑x))]) (st' := [xi (z_or (↑g) (↑i)), xi (↑x), xr 143]) rfl ?_
        rw [(z_oo g hg i (by omega)).1]
        refine ex_call (ct_m_beatsAll hM hT hL (s := sp_wo s i) (g := g ||| i) (z_oo g hg i (by omega)).2 (fun p hp => by rw [z_wob s hs64 i (by omega) p (by omega), hs p hp, Nat.testBit_or, Bool.not_or]) hx) (by decide) rfl ⟨rfl, rfl, rfl⟩ ⟨Nat.le_of_ble_eq_true rfl, rfl, rfl⟩ (Nat.le_of_ble_eq_true rfl) rfl ?_
        refine ex_beq rfl (fun h4 => ?_) (fun h4 => ?_)
        · refine ex_st 4 (pc' := 19) (ls' := [(3, xi ((↑i) + 1)), (2, xi (↑fn)), (0, xr 143), (1, xi (↑x))]) (st' := []) rfl ?_
          refine ex_pm [(3, xi (↑i + 1)), (2, xi (↑fn)), (0, xr 143), (1, xi (↑x))] (fun i => by rcases i with _ | _ | _ | _ | _ | _ | _ | _ | _ | i <;> first | (right; rfl) | (left; rfl)) ?_
          refine lp_mbr hM hT hL hs64 hg hs hg1 hx (i + 1) (by omega) _ ?_
          simp only [sp_few]
          have hno : ¬ (sp_bc i < (sp_few lk vo qv c s x i).2 ∧ sp_all lk vo qv c (sp_wo s i) x 5 = true) := by
            intro q
            rcases hinv with ⟨q1, q2⟩ | ⟨m, q1, q2, q3⟩
            · first | exact absurd q.2 (by assumption) | omega
            · first | exact absurd q.2 (by assumption) | ((obtain rfl : fn = m := by omega); have := q.1; omega)
          rw [if_neg hno]; exact hfo
        · refine ex_st 5 (pc' := 19) (ls' := [(3, xi ((↑i) + 1)), (2, xi (↑i)), (0, xr 143), (1, xi (↑x))]) (st' := []) rfl ?_
          refine ex_pm [(3, xi (↑i + 1)), (2, xi (↑i)), (0, xr 143), (1, xi (↑x))] (fun i => by rcases i with _ | _ | _ | _ | _ | _ | _ | _ | _ | i <;> first | (right; rfl) | (left; rfl)) ?_
          refine lp_mbr hM hT hL hs64 hg hs hg1 hx (i + 1) (by omega) _ ?_
          simp only [sp_few]
          have hyes : sp_bc i < (sp_few lk vo qv c s x i).2 := by
            rcases hinv with ⟨q1, q2⟩ | ⟨m, q1, q2, q3⟩
            · omega
            · (obtain rfl : fn = m := by omega); omega
          rw [if_pos ⟨hyes, by assumption⟩]
      · refine ex_st 3 (pc' := 19) (ls' := [(3, xi ((↑i) + 1)), (2, xi (↑fn)), (0, xr 143), (1, xi (↑x))]) (st' := []) rfl ?_
        refine ex_pm [(3, xi (↑i + 1)), (2, xi (↑fn)), (0, xr 143), (1, xi (↑x))] (fun i => by rcases i with _ | _ | _ | _ | _ | _ | _ | _ | _ | i <;> first | (right; rfl) | (left; rfl)) ?_
        refine lp_mbr hM hT hL hs64 hg hs hg1 hx (i + 1) (by omega) _ ?_
        simp only [sp_few]
        have hno : ¬ (sp_bc i < (sp_few lk vo qv c s x i).2 ∧ sp_all lk vo qv c (sp_wo s i) x 5 = true) := by
          intro q
          rcases hinv with ⟨q1, q2⟩ | ⟨m, q1, q2, q3⟩
          · first | exact absurd q.2 (by assumption) | omega
          · first | exact absurd q.2 (by assumption) | ((obtain rfl : fn = m := by omega); have := q.1; omega)
        rw [if_neg hno]; exact hfo
termination_by sp_pw c - i
decreasing_by all_goals (omega)
set_option maxRecDepth 8000 in
set_option maxHeartbeats 2000000 in
theorem op_bribe {sc : List Int} {I : Nat → Nat → Int} {L : Nat → Nat → Int64} (hR : Rl I L) {x : Int} (hx : x_R x) : x_PQ sc xN_G_bribe [xr 0, xi x] xN_m_bribe [xr 143, xi x] (xSH, I, L) := by
  obtain ⟨⟨hNs, hNo, hNa, hNb, hNr, hNd, hNg, hNe, hNp, hNk⟩, hI, hT, hX, hC, hH, hQ⟩ := id hR
  have hs := hNs
  unfold RNs at hs
  obtain ⟨c, kd, vv, vo, aw, ba, ro, egg, se, hWW, hM⟩ := hR.vw
  have hT2 := hT
  unfold RT at hT2
  obtain ⟨T, nn, cc, cd, we, en, qv, hXt⟩ := RT.tr hT (t := I 143 13) (by omega) (by omega)
  have hX2 := id hXt
  obtain ⟨u1, u2, u3, u4, u5, u6, u7, u8, u9, u10⟩ := hX2
  have hMT := u10 rfl
  obtain ⟨g, hg1, hg, hgs, hgp⟩ := hM.pres
  have hI17 : I 1 7 = I 143 13 := by omega
  have hs64 := sp_mask64 (sp_nz aw) (n := c) (by have := hWW.2.1; omega)
  have hsN : sp_mask (sp_nz aw) c = (((sp_mask (sp_nz aw) c).toNat : Nat) : Int) := by have := (sp_mask_bd (sp_nz aw) c).1; omega
  obtain ⟨hg_1, hg_2, hg_3, hg_4, hg_5, hg_6⟩ := id hNg
  obtain ⟨n, hn⟩ := Int.eq_ofNat_of_zero_le hg_2
  obtain ⟨ag, hag0⟩ : ∃ ag : Nat → Nat, ∀ k, ag k = (I 150 k).toNat := ⟨_, fun _ => rfl⟩
  have hag : ∀ k, k < n → I 150 k = (ag k : Int) ∧ ag k < 5 := fun k hk => by have h1 := hg_5 k (by omega); have h2 := hag0 k; omega
  have hvo : ∀ p, p < c → 0 ≤ vo p ∧ vo p ≤ 9 := fun p hp => (hM.2.2.2.2.2.2.2 p hp).2.2.2.2.2.1
  by_cases hv : 0 ≤ x ∧ x < 5
  · obtain ⟨p, rfl⟩ := Int.eq_ofNat_of_zero_le hv.1
    refine x_CQ.of (M := xM_G_bribe) rfl (Nat.le_of_ble_eq_true rfl) ?_
    refine ex_st 1 (pc' := 1) (ls' := [(0, xr 0), (1, xi (↑p))]) (st' := [xi (↑p)]) rfl ?_
    refine ex_call (ct_G_isThing (by first | omega | (constructor <;> omega) | assumption)) (by decide) rfl ⟨rfl, rfl, rfl⟩ ⟨Nat.le_of_ble_eq_true rfl, rfl, rfl⟩ (Nat.le_of_ble_eq_true rfl) rfl ?_
    refine ex_bne rfl (fun h0 => ?_) (fun h0 => ?_)
    · refine ex_st 3 (pc' := 14) (ls' := [(0, xr 0), (1, xi (↑p))]) (st' := [xr 1, xr 0]) rfl ?_
      refine ex_callQ (ct_G_ballotOf (L := L) WS.mk1 hWW u2 u3 u4 u5 u6 u7 u8 hI17 u9 u1) (by decide) rfl ⟨rfl, rfl, rfl⟩ ⟨Nat.le_of_ble_eq_true rfl, rfl, rfl⟩ (Nat.le_of_ble_eq_true rfl) rfl (fun ra m2 hQ => ?_)
      obtain ⟨rfl, J, rfl, hJ, hBW, hP, hBM⟩ := hQ
      rw [hsN] at hP
      refine ex_st 1 (pc' := 18) (ls' := [(0, xr 0), (1, xi (↑p))]) (st' := [xi (↑p), xr 92]) rfl ?_
      refine ex_call (ct_B_fewestToSendAway hBW hs64 hP (by omega)) (by decide) rfl ⟨rfl, rfl, rfl⟩ ⟨Nat.le_of_ble_eq_true rfl, rfl, rfl⟩ (Nat.le_of_ble_eq_true rfl) rfl ?_
      refine ex_reti rfl rfl ?_
      refine x_CQ.of (M := xM_m_bribe) rfl (Nat.le_of_ble_eq_true rfl) ?_
      refine ex_st 2 (pc' := 2) (ls' := [(0, xr 143), (1, xi (↑p))]) (st' := [xi (↑p), xr 143]) rfl ?_
      refine ex_call (ct_m_isThing (by first | omega | (constructor <;> omega) | assumption)) (by decide) rfl ⟨rfl, rfl, rfl⟩ ⟨Nat.le_of_ble_eq_true rfl, rfl, rfl⟩ (Nat.le_of_ble_eq_true rfl) rfl ?_
      refine ex_bne rfl (fun h1 => ?_) (fun h1 => ?_)
      · refine ex_st 1 (pc' := 11) (ls' := [(0, xr 143), (1, xi (↑p))]) (st' := [xr 143]) rfl ?_
        have hMx := hM.fr2 (I' := J) (fun k j a b => hJ k j (by omega))
        have hTx := hMT.fr2 (I' := J) (fun k j a b => hJ k j (by omega))
        have hgx : J 143 1 = (g : Int) := by rw [hJ _ _ (by omega)]; exact hg1
        have hnx : J 143 2 = (n : Int) := by rw [hJ _ _ (by omega)]; exact hn
        have hagx : ∀ k, k < n → J 150 k = (ag k : Int) ∧ ag k < 5 := fun k hk => by rw [hJ _ _ (by omega)]; exact hag k hk
        have hXI : ∀ k j, ¬ (92 ≤ k ∧ k ≤ 103) → J k j = I k j := fun k j hk => hJ k j (by omega)
        refine ex_callQ (ct_m_layLikes (L := L) hMx hTx) (by decide) rfl ⟨rfl, rfl, rfl⟩ ⟨Nat.le_of_ble_eq_true rfl, rfl, rfl⟩ (Nat.le_of_ble_eq_true rfl) rfl (fun ra m2 hQ => ?_)
        obtain ⟨rfl, K, rfl, hLK, hK⟩ := hQ
        have hKI : ∀ k j, ¬ (92 ≤ k ∧ k ≤ 103) → ¬ x_ms k j → K k j = I k j := fun k j h1 h2 => by rw [hK _ _ (by first | exact h2 | (unfold x_ms at h2; omega)), hXI _ _ h1]
        have hMK := hM.fr2 (I' := K) (fun k j a b => hKI k j (by omega) (by unfold x_ms; omega))
        have hTK := hMT.fr2 (I' := K) (fun k j a b => hKI k j (by omega) (by unfold x_ms; omega))
        have hgK : K 143 1 = (g : Int) := by rw [hKI _ _ (by omega) (by unfold x_ms; omega)]; exact hg1
        refine ex_st 4 (pc' := 19) (ls' := [(3, xi 0), (2, xi (-5)), (0, xr 143), (1, xi (↑p))]) (st' := []) rfl ?_
        refine x_Ex.mono (lp_mbr hMK hTK hLK hs64 hg hgs hgK (x := p) (by omega) 0 (Nat.zero_le _) (-5) rfl) (fun r m' h => ?_)
        obtain ⟨rfl, rfl⟩ := h
        exact ⟨x_req (by first | rfl | omega), _, _, rfl, hR.fr (fun k j hk => hKI k j (by unfold x_scr at hk; omega) (by unfold x_scr at hk; unfold x_ms; omega)) (fun _ _ => rfl)⟩
      · exfalso; omega
    · exfalso; omega
  refine x_CQ.of (M := xM_G_bribe) rfl (Nat.le_of_ble_eq_true rfl) ?_
  refine ex_st 1 (pc' := 1) (ls' := [(0, xr 0), (1, xi x)]) (st' := [xi x]) rfl ?_
  refine ex_call (ct_G_isThing (by first | omega | (constructor <;> omega) | assumption)) (by decide) rfl ⟨rfl, rfl, rfl⟩ ⟨Nat.le_of_ble_eq_true rfl, rfl, rfl⟩ (Nat.le_of_ble_eq_true rfl) rfl ?_
  refine ex_bne rfl (fun h0 => ?_) (fun h0 => ?_)
  · exfalso; omega
  · refine ex_st 1 (pc' := 8) (ls' := [(0, xr 0), (1, xi x)]) (st' := [xi (-1)]) rfl ?_
    refine ex_reti rfl rfl ?_
    refine x_CQ.of (M := xM_m_bribe) rfl (Nat.le_of_ble_eq_true rfl) ?_
    refine ex_st 2 (pc' := 2) (ls' := [(0, xr 143), (1, xi x)]) (st' := [xi x, xr 143]) rfl ?_
    refine ex_call (ct_m_isThing (by first | omega | (constructor <;> omega) | assumption)) (by decide) rfl ⟨rfl, rfl, rfl⟩ ⟨Nat.le_of_ble_eq_true rfl, rfl, rfl⟩ (Nat.le_of_ble_eq_true rfl) rfl ?_
    refine ex_bne rfl (fun h1 => ?_) (fun h1 => ?_)
    · exfalso; omega
    · refine ex_st 1 (pc' := 9) (ls' := [(0, xr 143), (1, xi x)]) (st' := [xi (-1)]) rfl ?_
      refine ex_reti rfl rfl ?_
      exact ⟨x_req (by first | rfl | omega), _, _, rfl, hR⟩
