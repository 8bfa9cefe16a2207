/-! pairs of calls: away, feed -/
theorem ct_m_has {sc : List Int} {m : xMem} {s k : Nat} (hs : s < 64) (hk : k < 6) : x_CE sc 1 xN_m_has [xr 143, xi (↑s), xi (↑k)] m (some (xi (x_b (s.testBit k = true)))) m := by
  refine x_CE.of (M := xM_m_has) rfl (Nat.le_of_ble_eq_true rfl) ?_
  refine ex_st 6 (pc' := 6) (ls' := [(0, xr 143), (1, xi (↑s)), (2, xi (↑k))]) (st' := [xi 1, xi (z_and (z_shr (↑s) (↑k)) 1)]) rfl ?_
  rw [z_bit s hs k hk]
  by_cases hb : s.testBit k = true
  · rw [if_pos hb]
    refine ex_st 3 (pc' := 14) (ls' := [(0, xr 143), (1, xi (↑s)), (2, xi (↑k))]) (st' := [xi 1]) rfl ?_
    refine ex_retz rfl (Or.inr rfl) rfl ?_
    exact ⟨by unfold x_b; rw [if_pos hb], rfl⟩
  · rw [if_neg hb]
    refine ex_st 2 (pc' := 14) (ls' := [(0, xr 143), (1, xi (↑s)), (2, xi (↑k))]) (st' := [xi 0]) rfl ?_
    refine ex_retz rfl (Or.inl rfl) rfl ?_
    exact ⟨by unfold x_b; rw [if_neg hb], rfl⟩
theorem op_away {sc : List Int} {I : Nat → Nat → Int} {L : Nat → Nat → Int64} (hR : Rl I L) {t b : Int} (ht : x_R t) (hb : b = 0 ∨ b = 1) : x_PQ sc xN_G_away [xr 0, xi t, xi b] xN_m_away [xr 143, xi t, xi b] (xSH, I, L) := by
  obtain ⟨⟨hNs, hNo, hNa, hNb, hNr, hNd, hNg, hNe, hNp, hNk⟩, hI, hT, hX, hC, hH, hQ⟩ := id hR
  have hs := hNs
  unfold RNs at hs
  obtain ⟨hna, hnb, hnc⟩ := id hNa
  obtain ⟨sa, hsa⟩ := Int.eq_ofNat_of_zero_le hnb
  rw [hsa] at hna hnc
  simp only [Int.toNat_natCast] at hna
  rcases hb with rfl | rfl
  · by_cases hv : 0 ≤ t ∧ t < I 1 1
    · obtain ⟨n, rfl⟩ := Int.eq_ofNat_of_zero_le hv.1
      have haw := hna n (by omega)
      unfold x_b at haw
      refine x_CQ.of (M := xM_G_away) rfl (Nat.le_of_ble_eq_true rfl) ?_
      refine ex_st 2 (pc' := 2) (ls' := [(0, xr 0), (1, xi (↑n)), (2, xi 0)]) (st' := [xi (↑n), xr 0]) rfl ?_
      refine ex_call (ct_G_isOfficial2 (c := I 1 1) (by first | omega | (constructor <;> omega) | assumption | ((repeat rw [x_up_far (by omega)]); first | rfl | omega | (constructor <;> omega))) (by (repeat rw [x_up_far (by omega)]); try rfl) (by first | omega | (constructor <;> omega) | assumption | ((repeat rw [x_up_far (by omega)]); first | rfl | omega | (constructor <;> omega)))) (by decide) rfl ⟨rfl, rfl, rfl⟩ ⟨Nat.le_of_ble_eq_true rfl, rfl, rfl⟩ (Nat.le_of_ble_eq_true rfl) rfl ?_
      refine ex_bne rfl (fun h0 => ?_) (fun h0 => ?_)
      · refine ex_st 4 (pc' := 18) (ls' := [(0, xr 0), (1, xi (↑n)), (2, xi 0)]) (st' := [xi (↑n), xr 2]) rfl ?_
        refine ex_aald (q := 11 + 3 * n) (j := n) rfl (by decide) (rfl : xSH[2]? = some _) (by decide) (by omega) (by omega) (by decide) (x_aa2 n (by omega)) (by omega) ?_
        refine ex_st 2 (pc' := 21) (ls' := [(3, xr (11 + 3 * n)), (0, xr 0), (1, xi (↑n)), (2, xi 0)]) (st' := [xr (11 + 3 * n)]) rfl ?_
        refine ex_gfi rfl (by omega) (x_so1 n (by omega)).1 (by decide) (by decide) rfl ?_
        refine ex_st 3 (pc' := 28) (ls' := [(4, xi (I (11 + 3 * n) 3)), (3, xr (11 + 3 * n)), (0, xr 0), (1, xi (↑n)), (2, xi 0)]) (st' := [xi 0, xr (11 + 3 * n)]) rfl ?_
        refine ex_pfi rfl (by omega) (x_so1 n (by omega)).1 (by decide) rfl (by decide) (fun _ => by first | exact x_b01 _ | simp | omega) ?_
        refine ex_st 1 (pc' := 33) (ls' := [(4, xi (I (11 + 3 * n) 3)), (3, xr (11 + 3 * n)), (0, xr 0), (1, xi (↑n)), (2, xi 0)]) (st' := [xi (I (11 + 3 * n) 3)]) rfl ?_
        refine ex_if rfl (by first | omega | (constructor <;> omega) | assumption) (fun (h1 : (I (11 + 3 * n) 3) = 0) => ?_) (fun (h1 : ¬ (I (11 + 3 * n) 3) = 0) => ?_)
        · refine ex_st 1 (pc' := 41) (ls' := [(4, xi (I (11 + 3 * n) 3)), (3, xr (11 + 3 * n)), (0, xr 0), (1, xi (↑n)), (2, xi 0)]) (st' := [xi 0]) rfl ?_
          refine ex_reti rfl rfl ?_
          refine x_CQ.of (M := xM_m_away) rfl (Nat.le_of_ble_eq_true rfl) ?_
          refine ex_st 2 (pc' := 2) (ls' := [(0, xr 143), (1, xi (↑n)), (2, xi 0)]) (st' := [xi (↑n), xr 143]) rfl ?_
          refine ex_call (ct_m_isOfficial2 (c := I 143 0) (by first | omega | (constructor <;> omega) | assumption | ((repeat rw [x_up_far (by omega)]); first | rfl | omega | (constructor <;> omega))) (by (repeat rw [x_up_far (by omega)]); try rfl) (by first | omega | (constructor <;> omega) | assumption | ((repeat rw [x_up_far (by omega)]); first | rfl | omega | (constructor <;> omega)))) (by decide) rfl ⟨rfl, rfl, rfl⟩ ⟨Nat.le_of_ble_eq_true rfl, rfl, rfl⟩ (Nat.le_of_ble_eq_true rfl) rfl ?_
          refine ex_bne rfl (fun h2 => ?_) (fun h2 => ?_)
          · refine ex_st 3 (pc' := 15) (ls' := [(0, xr 143), (1, xi (↑n)), (2, xi 0)]) (st' := [xi ((x_up I (11 + 3 * n) 3 0) 143 1), xr 143]) rfl ?_
            rw [(x_up_far (by first | decide | omega) : (x_up I (11 + 3 * n) 3 0) 143 1 = I 143 1)]
            rw [hsa]
            refine ex_st 1 (pc' := 16) (ls' := [(0, xr 143), (1, xi (↑n)), (2, xi 0)]) (st' := [xi (↑n), xi (↑sa), xr 143]) rfl ?_
            refine ex_call (ct_m_has (by first | omega | (constructor <;> omega) | assumption | ((repeat rw [x_up_far (by omega)]); first | rfl | omega | (constructor <;> omega))) (by first | omega | (constructor <;> omega) | assumption | ((repeat rw [x_up_far (by omega)]); first | rfl | omega | (constructor <;> omega)))) (by decide) rfl ⟨rfl, rfl, rfl⟩ ⟨Nat.le_of_ble_eq_true rfl, rfl, rfl⟩ (Nat.le_of_ble_eq_true rfl) rfl ?_
            refine ex_beq rfl (fun h3 => ?_) (fun h3 => ?_)
            · refine ex_st 5 (pc' := 31) (ls' := [(3, xi 0), (0, xr 143), (1, xi (↑n)), (2, xi 0)]) (st' := [xi 0, xi (↑n), xr 143]) rfl ?_
              refine ex_inl (M' := xM_m_goes) (as := [xr 143, xi (↑n), xi 0]) (rest := []) (D' := 28) rfl (Nat.le_of_ble_eq_true rfl) (by decide) rfl ⟨rfl, rfl, rfl⟩ ⟨Nat.le_of_ble_eq_true rfl, rfl, rfl⟩ (Nat.le_of_ble_eq_true rfl) rfl ?_
              refine ex_st 2 (pc' := 2) (ls' := [(0, xr 143), (1, xi (↑n)), (2, xi 0)]) (st' := [xi 0, xr 143]) rfl ?_
              refine ex_st 1 (pc' := 16) (ls' := [(0, xr 143), (1, xi (↑n)), (2, xi 0)]) (st' := [xr 143]) rfl ?_
              refine ex_st 2 (pc' := 20) (ls' := [(0, xr 143), (1, xi (↑n)), (2, xi 0)]) (st' := [xi ((x_up I (11 + 3 * n) 3 0) 143 1), xr 143]) rfl ?_
              rw [(x_up_far (by first | decide | omega) : (x_up I (11 + 3 * n) 3 0) 143 1 = I 143 1)]
              rw [hsa]
              refine ex_st 6 (pc' := 26) (ls' := [(0, xr 143), (1, xi (↑n)), (2, xi 0)]) (st' := [xi (z_and (↑sa) (z_xor (z_shl 1 (↑n)) (-1))), xr 143]) rfl ?_
              refine ex_pfi rfl (by decide) (rfl : xSH[143]? = some _) (by decide) rfl (by decide) (fun h => by cases h) ?_
              refine ex_retv rfl rfl ?_
              refine ex_st 1 (pc' := 35) (ls' := [(3, xi 0), (0, xr 143), (1, xi (↑n)), (2, xi 0)]) (st' := [xi 0]) rfl ?_
              refine ex_reti rfl rfl ?_
              refine ⟨x_req (by first | rfl | omega), ?_⟩
              have hz := z_set0 sa (by omega) n (by omega)
              refine ⟨_, _, rfl, ?_⟩
              have hI2 : RIw (x_up (x_up I (11 + 3 * n) 3 0) 143 1 (z_and (↑sa) (z_xor (z_shl 1 (↑n)) (-1)))) := by
                obtain ⟨gs, go, ga, gb, gr, gd, gg, ge, gp, gk⟩ := id hI
                exact ⟨gs.fr ⟨by (repeat rw [x_up_far (by omega)]); try rfl, by (repeat rw [x_up_far (by omega)]); try rfl, by (repeat rw [x_up_far (by omega)]); try rfl, by (repeat rw [x_up_far (by omega)]); try rfl, by (repeat rw [x_up_far (by omega)]); try rfl, by (repeat rw [x_up_far (by omega)]); try rfl, by (repeat rw [x_up_far (by omega)]); try rfl, by (repeat rw [x_up_far (by omega)]); try rfl, by (repeat rw [x_up_far (by omega)]); try rfl⟩, go.fr (by intros; (repeat rw [x_up_far (by omega)]); try rfl) (by intros; (repeat rw [x_up_far (by omega)]); try rfl), ga.fr (by intros; (repeat rw [x_up_far (by omega)]); try rfl) (by (repeat rw [x_up_far (by omega)]); try rfl), gb.fr (by intros; (repeat rw [x_up_far (by omega)]); try rfl) (by intros; (repeat rw [x_up_far (by omega)]); try rfl), gr.fr (by intros; (repeat rw [x_up_far (by omega)]); try rfl) (by intros; (repeat rw [x_up_far (by omega)]); try rfl), gd.fr (by intros; (repeat rw [x_up_far (by omega)]); try rfl) (by intros; (repeat rw [x_up_far (by omega)]); try rfl) (by (repeat rw [x_up_far (by omega)]); try rfl), gg.fr ⟨by (repeat rw [x_up_far (by omega)]); try rfl, by (repeat rw [x_up_far (by omega)]); try rfl⟩ (by intros; (repeat rw [x_up_far (by omega)]); try rfl) (by intros; (repeat rw [x_up_far (by omega)]); try rfl), ge.fr ⟨by (repeat rw [x_up_far (by omega)]); try rfl, by (repeat rw [x_up_far (by omega)]); try rfl, by (repeat rw [x_up_far (by omega)]); try rfl⟩ (by intros; (repeat rw [x_up_far (by omega)]); try rfl) (by intros; (repeat rw [x_up_far (by omega)]); try rfl), gp.fr ⟨by (repeat rw [x_up_far (by omega)]); try rfl, by (repeat rw [x_up_far (by omega)]); try rfl, by (repeat rw [x_up_far (by omega)]); try rfl⟩ (by intros; (repeat rw [x_up_far (by omega)]); try rfl) (by intros; (repeat rw [x_up_far (by omega)]); try rfl), gk.fr ⟨by (repeat rw [x_up_far (by omega)]); try rfl, by (repeat rw [x_up_far (by omega)]); try rfl, by (repeat rw [x_up_far (by omega)]); try rfl⟩ (by intros; (repeat rw [x_up_far (by omega)]); try rfl) (by intros; (repeat rw [x_up_far (by omega)]); try rfl)⟩
              refine ⟨⟨hNs.fr ⟨by (repeat rw [x_up_far (by omega)]); try rfl, by (repeat rw [x_up_far (by omega)]); try rfl, by (repeat rw [x_up_far (by omega)]); try rfl, by (repeat rw [x_up_far (by omega)]); try rfl, by (repeat rw [x_up_far (by omega)]); try rfl, by (repeat rw [x_up_far (by omega)]); try rfl, by (repeat rw [x_up_far (by omega)]); try rfl, by (repeat rw [x_up_far (by omega)]); try rfl, by (repeat rw [x_up_far (by omega)]); try rfl⟩, hNo.fr (by intros; (repeat rw [x_up_far (by omega)]); try rfl) (by intros; (repeat rw [x_up_far (by omega)]); try rfl), ?_, hNb.fr (by intros; (repeat rw [x_up_far (by omega)]); try rfl) (by intros; (repeat rw [x_up_far (by omega)]); try rfl), hNr.fr (by intros; (repeat rw [x_up_far (by omega)]); try rfl) (by intros; (repeat rw [x_up_far (by omega)]); try rfl), hNd.fr (by intros; (repeat rw [x_up_far (by omega)]); try rfl) (by intros; (repeat rw [x_up_far (by omega)]); try rfl) (by (repeat rw [x_up_far (by omega)]); try rfl), hNg.fr ⟨by (repeat rw [x_up_far (by omega)]); try rfl, by (repeat rw [x_up_far (by omega)]); try rfl⟩ (by intros; (repeat rw [x_up_far (by omega)]); try rfl) (by intros; (repeat rw [x_up_far (by omega)]); try rfl), hNe.fr ⟨by (repeat rw [x_up_far (by omega)]); try rfl, by (repeat rw [x_up_far (by omega)]); try rfl, by (repeat rw [x_up_far (by omega)]); try rfl⟩ (by intros; (repeat rw [x_up_far (by omega)]); try rfl) (by intros; (repeat rw [x_up_far (by omega)]); try rfl), hNp.fr ⟨by (repeat rw [x_up_far (by omega)]); try rfl, by (repeat rw [x_up_far (by omega)]); try rfl, by (repeat rw [x_up_far (by omega)]); try rfl⟩ (by intros; (repeat rw [x_up_far (by omega)]); try rfl) (by intros; (repeat rw [x_up_far (by omega)]); try rfl), hNk.fr ⟨by (repeat rw [x_up_far (by omega)]); try rfl, by (repeat rw [x_up_far (by omega)]); try rfl, by (repeat rw [x_up_far (by omega)]); try rfl⟩ (by intros; (repeat rw [x_up_far (by omega)]); try rfl) (by intros; (repeat rw [x_up_far (by omega)]); try rfl)⟩, hI2, hT.fr ⟨by (repeat rw [x_up_far (by omega)]); try rfl, by (repeat rw [x_up_far (by omega)]); try rfl⟩ (by intros; (repeat rw [x_up_far (by omega)]); try rfl) (by intros; (repeat rw [x_up_far (by omega)]); try rfl) (by intros; (repeat rw [x_up_far (by omega)]); try rfl), hX.fr ⟨by (repeat rw [x_up_far (by omega)]); try rfl, by (repeat rw [x_up_far (by omega)]); try rfl⟩ (by intros; (repeat rw [x_up_far (by omega)]); try rfl), hC.fr ⟨by (repeat rw [x_up_far (by omega)]); try rfl, by (repeat rw [x_up_far (by omega)]); try rfl⟩ (by intros; (repeat rw [x_up_far (by omega)]); try rfl), hH.fr ⟨by (repeat rw [x_up_far (by omega)]); try rfl, by (repeat rw [x_up_far (by omega)]); try rfl, by (repeat rw [x_up_far (by omega)]); try rfl⟩ (by intros; (repeat rw [x_up_far (by omega)]); try rfl) (by intros; (repeat rw [x_up_far (by omega)]); try rfl), hQ.fr (by intros; (repeat rw [x_up_far (by omega)]); try rfl) (by intros; (repeat rw [x_up_far (by omega)]); try rfl) (by intros; (repeat rw [x_up_far (by omega)]); try rfl) (by intros; (repeat rw [x_up_far (by omega)]); try rfl)⟩
              · refine ⟨fun p hp => ?_, ?_, ?_⟩
                · have h1 := hna p hp
                  have h2 := hz.2.2 p hp
                  by_cases hpn : p = n
                  · subst hpn; simp only [if_true] at h2; simp [x_up, h2, x_b]
                  · rw [if_neg hpn] at h2; rw [x_up_at, h2, x_up_far (by omega), x_up_far (by omega)]; exact h1
                · rw [x_up_at]; exact hz.1
                · rw [x_up_at]; exact hz.2.1
            · exfalso; (first | omega | (split at haw <;> first | omega | contradiction))
          · exfalso; (first | omega | (split at haw <;> first | omega | contradiction))
        · refine ex_st 2 (pc' := 41) (ls' := [(4, xi (I (11 + 3 * n) 3)), (3, xr (11 + 3 * n)), (0, xr 0), (1, xi (↑n)), (2, xi 0)]) (st' := [xi 1]) rfl ?_
          refine ex_reti rfl rfl ?_
          refine x_CQ.of (M := xM_m_away) rfl (Nat.le_of_ble_eq_true rfl) ?_
          refine ex_st 2 (pc' := 2) (ls' := [(0, xr 143), (1, xi (↑n)), (2, xi 0)]) (st' := [xi (↑n), xr 143]) rfl ?_
          refine ex_call (ct_m_isOfficial2 (c := I 143 0) (by first | omega | (constructor <;> omega) | assumption | ((repeat rw [x_up_far (by omega)]); first | rfl | omega | (constructor <;> omega))) (by (repeat rw [x_up_far (by omega)]); try rfl) (by first | omega | (constructor <;> omega) | assumption | ((repeat rw [x_up_far (by omega)]); first | rfl | omega | (constructor <;> omega)))) (by decide) rfl ⟨rfl, rfl, rfl⟩ ⟨Nat.le_of_ble_eq_true rfl, rfl, rfl⟩ (Nat.le_of_ble_eq_true rfl) rfl ?_
          refine ex_bne rfl (fun h4 => ?_) (fun h4 => ?_)
          · refine ex_st 3 (pc' := 15) (ls' := [(0, xr 143), (1, xi (↑n)), (2, xi 0)]) (st' := [xi ((x_up I (11 + 3 * n) 3 0) 143 1), xr 143]) rfl ?_
            rw [(x_up_far (by first | decide | omega) : (x_up I (11 + 3 * n) 3 0) 143 1 = I 143 1)]
            rw [hsa]
            refine ex_st 1 (pc' := 16) (ls' := [(0, xr 143), (1, xi (↑n)), (2, xi 0)]) (st' := [xi (↑n), xi (↑sa), xr 143]) rfl ?_
            refine ex_call (ct_m_has (by first | omega | (constructor <;> omega) | assumption | ((repeat rw [x_up_far (by omega)]); first | rfl | omega | (constructor <;> omega))) (by first | omega | (constructor <;> omega) | assumption | ((repeat rw [x_up_far (by omega)]); first | rfl | omega | (constructor <;> omega)))) (by decide) rfl ⟨rfl, rfl, rfl⟩ ⟨Nat.le_of_ble_eq_true rfl, rfl, rfl⟩ (Nat.le_of_ble_eq_true rfl) rfl ?_
            refine ex_beq rfl (fun h5 => ?_) (fun h5 => ?_)
            · exfalso; (first | omega | (split at haw <;> first | omega | contradiction))
            · refine ex_st 6 (pc' := 31) (ls' := [(3, xi 1), (0, xr 143), (1, xi (↑n)), (2, xi 0)]) (st' := [xi 0, xi (↑n), xr 143]) rfl ?_
              refine ex_inl (M' := xM_m_goes) (as := [xr 143, xi (↑n), xi 0]) (rest := []) (D' := 28) rfl (Nat.le_of_ble_eq_true rfl) (by decide) rfl ⟨rfl, rfl, rfl⟩ ⟨Nat.le_of_ble_eq_true rfl, rfl, rfl⟩ (Nat.le_of_ble_eq_true rfl) rfl ?_
              refine ex_st 2 (pc' := 2) (ls' := [(0, xr 143), (1, xi (↑n)), (2, xi 0)]) (st' := [xi 0, xr 143]) rfl ?_
              refine ex_st 1 (pc' := 16) (ls' := [(0, xr 143), (1, xi (↑n)), (2, xi 0)]) (st' := [xr 143]) rfl ?_
              refine ex_st 2 (pc' := 20) (ls' := [(0, xr 143), (1, xi (↑n)), (2, xi 0)]) (st' := [xi ((x_up I (11 + 3 * n) 3 0) 143 1), xr 143]) rfl ?_
              rw [(x_up_far (by first | decide | omega) : (x_up I (11 + 3 * n) 3 0) 143 1 = I 143 1)]
              rw [hsa]
              refine ex_st 6 (pc' := 26) (ls' := [(0, xr 143), (1, xi (↑n)), (2, xi 0)]) (st' := [xi (z_and (↑sa) (z_xor (z_shl 1 (↑n)) (-1))), xr 143]) rfl ?_
              refine ex_pfi rfl (by decide) (rfl : xSH[143]? = some _) (by decide) rfl (by decide) (fun h => by cases h) ?_
              refine ex_retv rfl rfl ?_
              refine ex_st 1 (pc' := 35) (ls' := [(3, xi 1), (0, xr 143), (1, xi (↑n)), (2, xi 0)]) (st' := [xi 1]) rfl ?_
              refine ex_reti rfl rfl ?_
              refine ⟨x_req (by first | rfl | omega), ?_⟩
              have hz := z_set0 sa (by omega) n (by omega)
              refine ⟨_, _, rfl, ?_⟩
              have hI2 : RIw (x_up (x_up I (11 + 3 * n) 3 0) 143 1 (z_and (↑sa) (z_xor (z_shl 1 (↑n)) (-1)))) := by
                obtain ⟨gs, go, ga, gb, gr, gd, gg, ge, gp, gk⟩ := id hI
                exact ⟨gs.fr ⟨by (repeat rw [x_up_far (by omega)]); try rfl, by (repeat rw [x_up_far (by omega)]); try rfl, by (repeat rw [x_up_far (by omega)]); try rfl, by (repeat rw [x_up_far (by omega)]); try rfl, by (repeat rw [x_up_far (by omega)]); try rfl, by (repeat rw [x_up_far (by omega)]); try rfl, by (repeat rw [x_up_far (by omega)]); try rfl, by (repeat rw [x_up_far (by omega)]); try rfl, by (repeat rw [x_up_far (by omega)]); try rfl⟩, go.fr (by intros; (repeat rw [x_up_far (by omega)]); try rfl) (by intros; (repeat rw [x_up_far (by omega)]); try rfl), ga.fr (by intros; (repeat rw [x_up_far (by omega)]); try rfl) (by (repeat rw [x_up_far (by omega)]); try rfl), gb.fr (by intros; (repeat rw [x_up_far (by omega)]); try rfl) (by intros; (repeat rw [x_up_far (by omega)]); try rfl), gr.fr (by intros; (repeat rw [x_up_far (by omega)]); try rfl) (by intros; (repeat rw [x_up_far (by omega)]); try rfl), gd.fr (by intros; (repeat rw [x_up_far (by omega)]); try rfl) (by intros; (repeat rw [x_up_far (by omega)]); try rfl) (by (repeat rw [x_up_far (by omega)]); try rfl), gg.fr ⟨by (repeat rw [x_up_far (by omega)]); try rfl, by (repeat rw [x_up_far (by omega)]); try rfl⟩ (by intros; (repeat rw [x_up_far (by omega)]); try rfl) (by intros; (repeat rw [x_up_far (by omega)]); try rfl), ge.fr ⟨by (repeat rw [x_up_far (by omega)]); try rfl, by (repeat rw [x_up_far (by omega)]); try rfl, by (repeat rw [x_up_far (by omega)]); try rfl⟩ (by intros; (repeat rw [x_up_far (by omega)]); try rfl) (by intros; (repeat rw [x_up_far (by omega)]); try rfl), gp.fr ⟨by (repeat rw [x_up_far (by omega)]); try rfl, by (repeat rw [x_up_far (by omega)]); try rfl, by (repeat rw [x_up_far (by omega)]); try rfl⟩ (by intros; (repeat rw [x_up_far (by omega)]); try rfl) (by intros; (repeat rw [x_up_far (by omega)]); try rfl), gk.fr ⟨by (repeat rw [x_up_far (by omega)]); try rfl, by (repeat rw [x_up_far (by omega)]); try rfl, by (repeat rw [x_up_far (by omega)]); try rfl⟩ (by intros; (repeat rw [x_up_far (by omega)]); try rfl) (by intros; (repeat rw [x_up_far (by omega)]); try rfl)⟩
              refine ⟨⟨hNs.fr ⟨by (repeat rw [x_up_far (by omega)]); try rfl, by (repeat rw [x_up_far (by omega)]); try rfl, by (repeat rw [x_up_far (by omega)]); try rfl, by (repeat rw [x_up_far (by omega)]); try rfl, by (repeat rw [x_up_far (by omega)]); try rfl, by (repeat rw [x_up_far (by omega)]); try rfl, by (repeat rw [x_up_far (by omega)]); try rfl, by (repeat rw [x_up_far (by omega)]); try rfl, by (repeat rw [x_up_far (by omega)]); try rfl⟩, hNo.fr (by intros; (repeat rw [x_up_far (by omega)]); try rfl) (by intros; (repeat rw [x_up_far (by omega)]); try rfl), ?_, hNb.fr (by intros; (repeat rw [x_up_far (by omega)]); try rfl) (by intros; (repeat rw [x_up_far (by omega)]); try rfl), hNr.fr (by intros; (repeat rw [x_up_far (by omega)]); try rfl) (by intros; (repeat rw [x_up_far (by omega)]); try rfl), hNd.fr (by intros; (repeat rw [x_up_far (by omega)]); try rfl) (by intros; (repeat rw [x_up_far (by omega)]); try rfl) (by (repeat rw [x_up_far (by omega)]); try rfl), hNg.fr ⟨by (repeat rw [x_up_far (by omega)]); try rfl, by (repeat rw [x_up_far (by omega)]); try rfl⟩ (by intros; (repeat rw [x_up_far (by omega)]); try rfl) (by intros; (repeat rw [x_up_far (by omega)]); try rfl), hNe.fr ⟨by (repeat rw [x_up_far (by omega)]); try rfl, by (repeat rw [x_up_far (by omega)]); try rfl, by (repeat rw [x_up_far (by omega)]); try rfl⟩ (by intros; (repeat rw [x_up_far (by omega)]); try rfl) (by intros; (repeat rw [x_up_far (by omega)]); try rfl), hNp.fr ⟨by (repeat rw [x_up_far (by omega)]); try rfl, by (repeat rw [x_up_far (by omega)]); try rfl, by (repeat rw [x_up_far (by omega)]); try rfl⟩ (by intros; (repeat rw [x_up_far (by omega)]); try rfl) (by intros; (repeat rw [x_up_far (by omega)]); try rfl), hNk.fr ⟨by (repeat rw [x_up_far (by omega)]); try rfl, by (repeat rw [x_up_far (by omega)]); try rfl, by (repeat rw [x_up_far (by omega)]); try rfl⟩ (by intros; (repeat rw [x_up_far (by omega)]); try rfl) (by intros; (repeat rw [x_up_far (by omega)]); try rfl)⟩, hI2, hT.fr ⟨by (repeat rw [x_up_far (by omega)]); try rfl, by (repeat rw [x_up_far (by omega)]); try rfl⟩ (by intros; (repeat rw [x_up_far (by omega)]); try rfl) (by intros; (repeat rw [x_up_far (by omega)]); try rfl) (by intros; (repeat rw [x_up_far (by omega)]); try rfl), hX.fr ⟨by (repeat rw [x_up_far (by omega)]); try rfl, by (repeat rw [x_up_far (by omega)]); try rfl⟩ (by intros; (repeat rw [x_up_far (by omega)]); try rfl), hC.fr ⟨by (repeat rw [x_up_far (by omega)]); try rfl, by (repeat rw [x_up_far (by omega)]); try rfl⟩ (by intros; (repeat rw [x_up_far (by omega)]); try rfl), hH.fr ⟨by (repeat rw [x_up_far (by omega)]); try rfl, by (repeat rw [x_up_far (by omega)]); try rfl, by (repeat rw [x_up_far (by omega)]); try rfl⟩ (by intros; (repeat rw [x_up_far (by omega)]); try rfl) (by intros; (repeat rw [x_up_far (by omega)]); try rfl), hQ.fr (by intros; (repeat rw [x_up_far (by omega)]); try rfl) (by intros; (repeat rw [x_up_far (by omega)]); try rfl) (by intros; (repeat rw [x_up_far (by omega)]); try rfl) (by intros; (repeat rw [x_up_far (by omega)]); try rfl)⟩
              · refine ⟨fun p hp => ?_, ?_, ?_⟩
                · have h1 := hna p hp
                  have h2 := hz.2.2 p hp
                  by_cases hpn : p = n
                  · subst hpn; simp only [if_true] at h2; simp [x_up, h2, x_b]
                  · rw [if_neg hpn] at h2; rw [x_up_at, h2, x_up_far (by omega), x_up_far (by omega)]; exact h1
                · rw [x_up_at]; exact hz.1
                · rw [x_up_at]; exact hz.2.1
          · exfalso; (first | omega | (split at haw <;> first | omega | contradiction))
      · exfalso; (first | omega | (split at haw <;> first | omega | contradiction))
    refine x_CQ.of (M := xM_G_away) rfl (Nat.le_of_ble_eq_true rfl) ?_
    refine ex_st 2 (pc' := 2) (ls' := [(0, xr 0), (1, xi t), (2, xi 0)]) (st' := [xi t, xr 0]) rfl ?_
    refine ex_call (ct_G_isOfficial2 (c := I 1 1) (by first | omega | (constructor <;> omega) | assumption | ((repeat rw [x_up_far (by omega)]); first | rfl | omega | (constructor <;> omega))) (by (repeat rw [x_up_far (by omega)]); try rfl) (by first | omega | (constructor <;> omega) | assumption | ((repeat rw [x_up_far (by omega)]); first | rfl | omega | (constructor <;> omega)))) (by decide) rfl ⟨rfl, rfl, rfl⟩ ⟨Nat.le_of_ble_eq_true rfl, rfl, rfl⟩ (Nat.le_of_ble_eq_true rfl) rfl ?_
    refine ex_bne rfl (fun h0 => ?_) (fun h0 => ?_)
    · exfalso; (first | omega | (split at haw <;> first | omega | contradiction))
    · refine ex_st 1 (pc' := 9) (ls' := [(0, xr 0), (1, xi t), (2, xi 0)]) (st' := [xi (-1)]) rfl ?_
      refine ex_reti rfl rfl ?_
      refine x_CQ.of (M := xM_m_away) rfl (Nat.le_of_ble_eq_true rfl) ?_
      refine ex_st 2 (pc' := 2) (ls' := [(0, xr 143), (1, xi t), (2, xi 0)]) (st' := [xi t, xr 143]) rfl ?_
      refine ex_call (ct_m_isOfficial2 (c := I 143 0) (by first | omega | (constructor <;> omega) | assumption | ((repeat rw [x_up_far (by omega)]); first | rfl | omega | (constructor <;> omega))) (by (repeat rw [x_up_far (by omega)]); try rfl) (by first | omega | (constructor <;> omega) | assumption | ((repeat rw [x_up_far (by omega)]); first | rfl | omega | (constructor <;> omega)))) (by decide) rfl ⟨rfl, rfl, rfl⟩ ⟨Nat.le_of_ble_eq_true rfl, rfl, rfl⟩ (Nat.le_of_ble_eq_true rfl) rfl ?_
      refine ex_bne rfl (fun h1 => ?_) (fun h1 => ?_)
      · exfalso; (first | omega | (split at haw <;> first | omega | contradiction))
      · refine ex_st 1 (pc' := 9) (ls' := [(0, xr 143), (1, xi t), (2, xi 0)]) (st' := [xi (-1)]) rfl ?_
        refine ex_reti rfl rfl ?_
        exact ⟨x_req (by first | rfl | omega), _, _, rfl, hR⟩
  · by_cases hv : 0 ≤ t ∧ t < I 1 1
    · obtain ⟨n, rfl⟩ := Int.eq_ofNat_of_zero_le hv.1
      have haw := hna n (by omega)
      unfold x_b at haw
      refine x_CQ.of (M := xM_G_away) rfl (Nat.le_of_ble_eq_true rfl) ?_
      refine ex_st 2 (pc' := 2) (ls' := [(0, xr 0), (1, xi (↑n)), (2, xi 1)]) (st' := [xi (↑n), xr 0]) rfl ?_
      refine ex_call (ct_G_isOfficial2 (c := I 1 1) (by first | omega | (constructor <;> omega) | assumption | ((repeat rw [x_up_far (by omega)]); first | rfl | omega | (constructor <;> omega))) (by (repeat rw [x_up_far (by omega)]); try rfl) (by first | omega | (constructor <;> omega) | assumption | ((repeat rw [x_up_far (by omega)]); first | rfl | omega | (constructor <;> omega)))) (by decide) rfl ⟨rfl, rfl, rfl⟩ ⟨Nat.le_of_ble_eq_true rfl, rfl, rfl⟩ (Nat.le_of_ble_eq_true rfl) rfl ?_
      refine ex_bne rfl (fun h0 => ?_) (fun h0 => ?_)
      · refine ex_st 4 (pc' := 18) (ls' := [(0, xr 0), (1, xi (↑n)), (2, xi 1)]) (st' := [xi (↑n), xr 2]) rfl ?_
        refine ex_aald (q := 11 + 3 * n) (j := n) rfl (by decide) (rfl : xSH[2]? = some _) (by decide) (by omega) (by omega) (by decide) (x_aa2 n (by omega)) (by omega) ?_
        refine ex_st 2 (pc' := 21) (ls' := [(3, xr (11 + 3 * n)), (0, xr 0), (1, xi (↑n)), (2, xi 1)]) (st' := [xr (11 + 3 * n)]) rfl ?_
        refine ex_gfi rfl (by omega) (x_so1 n (by omega)).1 (by decide) (by decide) rfl ?_
        refine ex_st 3 (pc' := 28) (ls' := [(4, xi (I (11 + 3 * n) 3)), (3, xr (11 + 3 * n)), (0, xr 0), (1, xi (↑n)), (2, xi 1)]) (st' := [xi 1, xr (11 + 3 * n)]) rfl ?_
        refine ex_pfi rfl (by omega) (x_so1 n (by omega)).1 (by decide) rfl (by decide) (fun _ => by first | exact x_b01 _ | simp | omega) ?_
        refine ex_st 1 (pc' := 33) (ls' := [(4, xi (I (11 + 3 * n) 3)), (3, xr (11 + 3 * n)), (0, xr 0), (1, xi (↑n)), (2, xi 1)]) (st' := [xi (I (11 + 3 * n) 3)]) rfl ?_
        refine ex_if rfl (by first | omega | (constructor <;> omega) | assumption) (fun (h1 : (I (11 + 3 * n) 3) = 0) => ?_) (fun (h1 : ¬ (I (11 + 3 * n) 3) = 0) => ?_)
        · refine ex_st 1 (pc' := 41) (ls' := [(4, xi (I (11 + 3 * n) 3)), (3, xr (11 + 3 * n)), (0, xr 0), (1, xi (↑n)), (2, xi 1)]) (st' := [xi 0]) rfl ?_
          refine ex_reti rfl rfl ?_
          refine x_CQ.of (M := xM_m_away) rfl (Nat.le_of_ble_eq_true rfl) ?_
          refine ex_st 2 (pc' := 2) (ls' := [(0, xr 143), (1, xi (↑n)), (2, xi 1)]) (st' := [xi (↑n), xr 143]) rfl ?_
          refine ex_call (ct_m_isOfficial2 (c := I 143 0) (by first | omega | (constructor <;> omega) | assumption | ((repeat rw [x_up_far (by omega)]); first | rfl | omega | (constructor <;> omega))) (by (repeat rw [x_up_far (by omega)]); try rfl) (by first | omega | (constructor <;> omega) | assumption | ((repeat rw [x_up_far (by omega)]); first | rfl | omega | (constructor <;> omega)))) (by decide) rfl ⟨rfl, rfl, rfl⟩ ⟨Nat.le_of_ble_eq_true rfl, rfl, rfl⟩ (Nat.le_of_ble_eq_true rfl) rfl ?_
          refine ex_bne rfl (fun h2 => ?_) (fun h2 => ?_)
          · refine ex_st 3 (pc' := 15) (ls' := [(0, xr 143), (1, xi (↑n)), (2, xi 1)]) (st' := [xi ((x_up I (11 + 3 * n) 3 1) 143 1), xr 143]) rfl ?_
            rw [(x_up_far (by first | decide | omega) : (x_up I (11 + 3 * n) 3 1) 143 1 = I 143 1)]
            rw [hsa]
            refine ex_st 1 (pc' := 16) (ls' := [(0, xr 143), (1, xi (↑n)), (2, xi 1)]) (st' := [xi (↑n), xi (↑sa), xr 143]) rfl ?_
            refine ex_call (ct_m_has (by first | omega | (constructor <;> omega) | assumption | ((repeat rw [x_up_far (by omega)]); first | rfl | omega | (constructor <;> omega))) (by first | omega | (constructor <;> omega) | assumption | ((repeat rw [x_up_far (by omega)]); first | rfl | omega | (constructor <;> omega)))) (by decide) rfl ⟨rfl, rfl, rfl⟩ ⟨Nat.le_of_ble_eq_true rfl, rfl, rfl⟩ (Nat.le_of_ble_eq_true rfl) rfl ?_
            refine ex_beq rfl (fun h3 => ?_) (fun h3 => ?_)
            · refine ex_st 5 (pc' := 31) (ls' := [(3, xi 0), (0, xr 143), (1, xi (↑n)), (2, xi 1)]) (st' := [xi 1, xi (↑n), xr 143]) rfl ?_
              refine ex_inl (M' := xM_m_goes) (as := [xr 143, xi (↑n), xi 1]) (rest := []) (D' := 28) rfl (Nat.le_of_ble_eq_true rfl) (by decide) rfl ⟨rfl, rfl, rfl⟩ ⟨Nat.le_of_ble_eq_true rfl, rfl, rfl⟩ (Nat.le_of_ble_eq_true rfl) rfl ?_
              refine ex_st 2 (pc' := 2) (ls' := [(0, xr 143), (1, xi (↑n)), (2, xi 1)]) (st' := [xi 1, xr 143]) rfl ?_
              refine ex_st 1 (pc' := 5) (ls' := [(0, xr 143), (1, xi (↑n)), (2, xi 1)]) (st' := [xr 143]) rfl ?_
              refine ex_st 2 (pc' := 9) (ls' := [(0, xr 143), (1, xi (↑n)), (2, xi 1)]) (st' := [xi ((x_up I (11 + 3 * n) 3 1) 143 1), xr 143]) rfl ?_
              rw [(x_up_far (by first | decide | omega) : (x_up I (11 + 3 * n) 3 1) 143 1 = I 143 1)]
              rw [hsa]
              refine ex_st 5 (pc' := 26) (ls' := [(0, xr 143), (1, xi (↑n)), (2, xi 1)]) (st' := [xi (z_or (↑sa) (z_shl 1 (↑n))), xr 143]) rfl ?_
              refine ex_pfi rfl (by decide) (rfl : xSH[143]? = some _) (by decide) rfl (by decide) (fun h => by cases h) ?_
              refine ex_retv rfl rfl ?_
              refine ex_st 1 (pc' := 35) (ls' := [(3, xi 0), (0, xr 143), (1, xi (↑n)), (2, xi 1)]) (st' := [xi 0]) rfl ?_
              refine ex_reti rfl rfl ?_
              refine ⟨x_req (by first | rfl | omega), ?_⟩
              have hz := z_set1 sa (by omega) n (by omega)
              refine ⟨_, _, rfl, ?_⟩
              have hI2 : RIw (x_up (x_up I (11 + 3 * n) 3 1) 143 1 (z_or (↑sa) (z_shl 1 (↑n)))) := by
                obtain ⟨gs, go, ga, gb, gr, gd, gg, ge, gp, gk⟩ := id hI
                exact ⟨gs.fr ⟨by (repeat rw [x_up_far (by omega)]); try rfl, by (repeat rw [x_up_far (by omega)]); try rfl, by (repeat rw [x_up_far (by omega)]); try rfl, by (repeat rw [x_up_far (by omega)]); try rfl, by (repeat rw [x_up_far (by omega)]); try rfl, by (repeat rw [x_up_far (by omega)]); try rfl, by (repeat rw [x_up_far (by omega)]); try rfl, by (repeat rw [x_up_far (by omega)]); try rfl, by (repeat rw [x_up_far (by omega)]); try rfl⟩, go.fr (by intros; (repeat rw [x_up_far (by omega)]); try rfl) (by intros; (repeat rw [x_up_far (by omega)]); try rfl), ga.fr (by intros; (repeat rw [x_up_far (by omega)]); try rfl) (by (repeat rw [x_up_far (by omega)]); try rfl), gb.fr (by intros; (repeat rw [x_up_far (by omega)]); try rfl) (by intros; (repeat rw [x_up_far (by omega)]); try rfl), gr.fr (by intros; (repeat rw [x_up_far (by omega)]); try rfl) (by intros; (repeat rw [x_up_far (by omega)]); try rfl), gd.fr (by intros; (repeat rw [x_up_far (by omega)]); try rfl) (by intros; (repeat rw [x_up_far (by omega)]); try rfl) (by (repeat rw [x_up_far (by omega)]); try rfl), gg.fr ⟨by (repeat rw [x_up_far (by omega)]); try rfl, by (repeat rw [x_up_far (by omega)]); try rfl⟩ (by intros; (repeat rw [x_up_far (by omega)]); try rfl) (by intros; (repeat rw [x_up_far (by omega)]); try rfl), ge.fr ⟨by (repeat rw [x_up_far (by omega)]); try rfl, by (repeat rw [x_up_far (by omega)]); try rfl, by (repeat rw [x_up_far (by omega)]); try rfl⟩ (by intros; (repeat rw [x_up_far (by omega)]); try rfl) (by intros; (repeat rw [x_up_far (by omega)]); try rfl), gp.fr ⟨by (repeat rw [x_up_far (by omega)]); try rfl, by (repeat rw [x_up_far (by omega)]); try rfl, by (repeat rw [x_up_far (by omega)]); try rfl⟩ (by intros; (repeat rw [x_up_far (by omega)]); try rfl) (by intros; (repeat rw [x_up_far (by omega)]); try rfl), gk.fr ⟨by (repeat rw [x_up_far (by omega)]); try rfl, by (repeat rw [x_up_far (by omega)]); try rfl, by (repeat rw [x_up_far (by omega)]); try rfl⟩ (by intros; (repeat rw [x_up_far (by omega)]); try rfl) (by intros; (repeat rw [x_up_far (by omega)]); try rfl)⟩
              refine ⟨⟨hNs.fr ⟨by (repeat rw [x_up_far (by omega)]); try rfl, by (repeat rw [x_up_far (by omega)]); try rfl, by (repeat rw [x_up_far (by omega)]); try rfl, by (repeat rw [x_up_far (by omega)]); try rfl, by (repeat rw [x_up_far (by omega)]); try rfl, by (repeat rw [x_up_far (by omega)]); try rfl, by (repeat rw [x_up_far (by omega)]); try rfl, by (repeat rw [x_up_far (by omega)]); try rfl, by (repeat rw [x_up_far (by omega)]); try rfl⟩, hNo.fr (by intros; (repeat rw [x_up_far (by omega)]); try rfl) (by intros; (repeat rw [x_up_far (by omega)]); try rfl), ?_, hNb.fr (by intros; (repeat rw [x_up_far (by omega)]); try rfl) (by intros; (repeat rw [x_up_far (by omega)]); try rfl), hNr.fr (by intros; (repeat rw [x_up_far (by omega)]); try rfl) (by intros; (repeat rw [x_up_far (by omega)]); try rfl), hNd.fr (by intros; (repeat rw [x_up_far (by omega)]); try rfl) (by intros; (repeat rw [x_up_far (by omega)]); try rfl) (by (repeat rw [x_up_far (by omega)]); try rfl), hNg.fr ⟨by (repeat rw [x_up_far (by omega)]); try rfl, by (repeat rw [x_up_far (by omega)]); try rfl⟩ (by intros; (repeat rw [x_up_far (by omega)]); try rfl) (by intros; (repeat rw [x_up_far (by omega)]); try rfl), hNe.fr ⟨by (repeat rw [x_up_far (by omega)]); try rfl, by (repeat rw [x_up_far (by omega)]); try rfl, by (repeat rw [x_up_far (by omega)]); try rfl⟩ (by intros; (repeat rw [x_up_far (by omega)]); try rfl) (by intros; (repeat rw [x_up_far (by omega)]); try rfl), hNp.fr ⟨by (repeat rw [x_up_far (by omega)]); try rfl, by (repeat rw [x_up_far (by omega)]); try rfl, by (repeat rw [x_up_far (by omega)]); try rfl⟩ (by intros; (repeat rw [x_up_far (by omega)]); try rfl) (by intros; (repeat rw [x_up_far (by omega)]); try rfl), hNk.fr ⟨by (repeat rw [x_up_far (by omega)]); try rfl, by (repeat rw [x_up_far (by omega)]); try rfl, by (repeat rw [x_up_far (by omega)]); try rfl⟩ (by intros; (repeat rw [x_up_far (by omega)]); try rfl) (by intros; (repeat rw [x_up_far (by omega)]); try rfl)⟩, hI2, hT.fr ⟨by (repeat rw [x_up_far (by omega)]); try rfl, by (repeat rw [x_up_far (by omega)]); try rfl⟩ (by intros; (repeat rw [x_up_far (by omega)]); try rfl) (by intros; (repeat rw [x_up_far (by omega)]); try rfl) (by intros; (repeat rw [x_up_far (by omega)]); try rfl), hX.fr ⟨by (repeat rw [x_up_far (by omega)]); try rfl, by (repeat rw [x_up_far (by omega)]); try rfl⟩ (by intros; (repeat rw [x_up_far (by omega)]); try rfl), hC.fr ⟨by (repeat rw [x_up_far (by omega)]); try rfl, by (repeat rw [x_up_far (by omega)]); try rfl⟩ (by intros; (repeat rw [x_up_far (by omega)]); try rfl), hH.fr ⟨by (repeat rw [x_up_far (by omega)]); try rfl, by (repeat rw [x_up_far (by omega)]); try rfl, by (repeat rw [x_up_far (by omega)]); try rfl⟩ (by intros; (repeat rw [x_up_far (by omega)]); try rfl) (by intros; (repeat rw [x_up_far (by omega)]); try rfl), hQ.fr (by intros; (repeat rw [x_up_far (by omega)]); try rfl) (by intros; (repeat rw [x_up_far (by omega)]); try rfl) (by intros; (repeat rw [x_up_far (by omega)]); try rfl) (by intros; (repeat rw [x_up_far (by omega)]); try rfl)⟩
              · refine ⟨fun p hp => ?_, ?_, ?_⟩
                · have h1 := hna p hp
                  have h2 := hz.2.2 p hp
                  by_cases hpn : p = n
                  · subst hpn; simp only [if_true] at h2; simp [x_up, h2, x_b]
                  · rw [if_neg hpn] at h2; rw [x_up_at, h2, x_up_far (by omega), x_up_far (by omega)]; exact h1
                · rw [x_up_at]; exact hz.1
                · rw [x_up_at]; exact hz.2.1
            · exfalso; (first | omega | (split at haw <;> first | omega | contradiction))
          · exfalso; (first | omega | (split at haw <;> first | omega | contradiction))
        · refine ex_st 2 (pc' := 41) (ls' := [(4, xi (I (11 + 3 * n) 3)), (3, xr (11 + 3 * n)), (0, xr 0), (1, xi (↑n)), (2, xi 1)]) (st' := [xi 1]) rfl ?_
          refine ex_reti rfl rfl ?_
          refine x_CQ.of (M := xM_m_away) rfl (Nat.le_of_ble_eq_true rfl) ?_
          refine ex_st 2 (pc' := 2) (ls' := [(0, xr 143), (1, xi (↑n)), (2, xi 1)]) (st' := [xi (↑n), xr 143]) rfl ?_
          refine ex_call (ct_m_isOfficial2 (c := I 143 0) (by first | omega | (constructor <;> omega) | assumption | ((repeat rw [x_up_far (by omega)]); first | rfl | omega | (constructor <;> omega))) (by (repeat rw [x_up_far (by omega)]); try rfl) (by first | omega | (constructor <;> omega) | assumption | ((repeat rw [x_up_far (by omega)]); first | rfl | omega | (constructor <;> omega)))) (by decide) rfl ⟨rfl, rfl, rfl⟩ ⟨Nat.le_of_ble_eq_true rfl, rfl, rfl⟩ (Nat.le_of_ble_eq_true rfl) rfl ?_
          refine ex_bne rfl (fun h4 => ?_) (fun h4 => ?_)
          · refine ex_st 3 (pc' := 15) (ls' := [(0, xr 143), (1, xi (↑n)), (2, xi 1)]) (st' := [xi ((x_up I (11 + 3 * n) 3 1) 143 1), xr 143]) rfl ?_
            rw [(x_up_far (by first | decide | omega) : (x_up I (11 + 3 * n) 3 1) 143 1 = I 143 1)]
            rw [hsa]
            refine ex_st 1 (pc' := 16) (ls' := [(0, xr 143), (1, xi (↑n)), (2, xi 1)]) (st' := [xi (↑n), xi (↑sa), xr 143]) rfl ?_
            refine ex_call (ct_m_has (by first | omega | (constructor <;> omega) | assumption | ((repeat rw [x_up_far (by omega)]); first | rfl | omega | (constructor <;> omega))) (by first | omega | (constructor <;> omega) | assumption | ((repeat rw [x_up_far (by omega)]); first | rfl | omega | (constructor <;> omega)))) (by decide) rfl ⟨rfl, rfl, rfl⟩ ⟨Nat.le_of_ble_eq_true rfl, rfl, rfl⟩ (Nat.le_of_ble_eq_true rfl) rfl ?_
            refine ex_beq rfl (fun h5 => ?_) (fun h5 => ?_)
            · exfalso; (first | omega | (split at haw <;> first | omega | contradiction))
            · refine ex_st 6 (pc' := 31) (ls' := [(3, xi 1), (0, xr 143), (1, xi (↑n)), (2, xi 1)]) (st' := [xi 1, xi (↑n), xr 143]) rfl ?_
              refine ex_inl (M' := xM_m_goes) (as := [xr 143, xi (↑n), xi 1]) (rest := []) (D' := 28) rfl (Nat.le_of_ble_eq_true rfl) (by decide) rfl ⟨rfl, rfl, rfl⟩ ⟨Nat.le_of_ble_eq_true rfl, rfl, rfl⟩ (Nat.le_of_ble_eq_true rfl) rfl ?_
              refine ex_st 2 (pc' := 2) (ls' := [(0, xr 143), (1, xi (↑n)), (2, xi 1)]) (st' := [xi 1, xr 143]) rfl ?_
              refine ex_st 1 (pc' := 5) (ls' := [(0, xr 143), (1, xi (↑n)), (2, xi 1)]) (st' := [xr 143]) rfl ?_
              refine ex_st 2 (pc' := 9) (ls' := [(0, xr 143), (1, xi (↑n)), (2, xi 1)]) (st' := [xi ((x_up I (11 + 3 * n) 3 1) 143 1), xr 143]) rfl ?_
              rw [(x_up_far (by first | decide | omega) : (x_up I (11 + 3 * n) 3 1) 143 1 = I 143 1)]
              rw [hsa]
              refine ex_st 5 (pc' := 26) (ls' := [(0, xr 143), (1, xi (↑n)), (2, xi 1)]) (st' := [xi (z_or (↑sa) (z_shl 1 (↑n))), xr 143]) rfl ?_
              refine ex_pfi rfl (by decide) (rfl : xSH[143]? = some _) (by decide) rfl (by decide) (fun h => by cases h) ?_
              refine ex_retv rfl rfl ?_
              refine ex_st 1 (pc' := 35) (ls' := [(3, xi 1), (0, xr 143), (1, xi (↑n)), (2, xi 1)]) (st' := [xi 1]) rfl ?_
              refine ex_reti rfl rfl ?_
              refine ⟨x_req (by first | rfl | omega), ?_⟩
              have hz := z_set1 sa (by omega) n (by omega)
              refine ⟨_, _, rfl, ?_⟩
              have hI2 : RIw (x_up (x_up I (11 + 3 * n) 3 1) 143 1 (z_or (↑sa) (z_shl 1 (↑n)))) := by
                obtain ⟨gs, go, ga, gb, gr, gd, gg, ge, gp, gk⟩ := id hI
                exact ⟨gs.fr ⟨by (repeat rw [x_up_far (by omega)]); try rfl, by (repeat rw [x_up_far (by omega)]); try rfl, by (repeat rw [x_up_far (by omega)]); try rfl, by (repeat rw [x_up_far (by omega)]); try rfl, by (repeat rw [x_up_far (by omega)]); try rfl, by (repeat rw [x_up_far (by omega)]); try rfl, by (repeat rw [x_up_far (by omega)]); try rfl, by (repeat rw [x_up_far (by omega)]); try rfl, by (repeat rw [x_up_far (by omega)]); try rfl⟩, go.fr (by intros; (repeat rw [x_up_far (by omega)]); try rfl) (by intros; (repeat rw [x_up_far (by omega)]); try rfl), ga.fr (by intros; (repeat rw [x_up_far (by omega)]); try rfl) (by (repeat rw [x_up_far (by omega)]); try rfl), gb.fr (by intros; (repeat rw [x_up_far (by omega)]); try rfl) (by intros; (repeat rw [x_up_far (by omega)]); try rfl), gr.fr (by intros; (repeat rw [x_up_far (by omega)]); try rfl) (by intros; (repeat rw [x_up_far (by omega)]); try rfl), gd.fr (by intros; (repeat rw [x_up_far (by omega)]); try rfl) (by intros; (repeat rw [x_up_far (by omega)]); try rfl) (by (repeat rw [x_up_far (by omega)]); try rfl), gg.fr ⟨by (repeat rw [x_up_far (by omega)]); try rfl, by (repeat rw [x_up_far (by omega)]); try rfl⟩ (by intros; (repeat rw [x_up_far (by omega)]); try rfl) (by intros; (repeat rw [x_up_far (by omega)]); try rfl), ge.fr ⟨by (repeat rw [x_up_far (by omega)]); try rfl, by (repeat rw [x_up_far (by omega)]); try rfl, by (repeat rw [x_up_far (by omega)]); try rfl⟩ (by intros; (repeat rw [x_up_far (by omega)]); try rfl) (by intros; (repeat rw [x_up_far (by omega)]); try rfl), gp.fr ⟨by (repeat rw [x_up_far (by omega)]); try rfl, by (repeat rw [x_up_far (by omega)]); try rfl, by (repeat rw [x_up_far (by omega)]); try rfl⟩ (by intros; (repeat rw [x_up_far (by omega)]); try rfl) (by intros; (repeat rw [x_up_far (by omega)]); try rfl), gk.fr ⟨by (repeat rw [x_up_far (by omega)]); try rfl, by (repeat rw [x_up_far (by omega)]); try rfl, by (repeat rw [x_up_far (by omega)]); try rfl⟩ (by intros; (repeat rw [x_up_far (by omega)]); try rfl) (by intros; (repeat rw [x_up_far (by omega)]); try rfl)⟩
              refine ⟨⟨hNs.fr ⟨by (repeat rw [x_up_far (by omega)]); try rfl, by (repeat rw [x_up_far (by omega)]); try rfl, by (repeat rw [x_up_far (by omega)]); try rfl, by (repeat rw [x_up_far (by omega)]); try rfl, by (repeat rw [x_up_far (by omega)]); try rfl, by (repeat rw [x_up_far (by omega)]); try rfl, by (repeat rw [x_up_far (by omega)]); try rfl, by (repeat rw [x_up_far (by omega)]); try rfl, by (repeat rw [x_up_far (by omega)]); try rfl⟩, hNo.fr (by intros; (repeat rw [x_up_far (by omega)]); try rfl) (by intros; (repeat rw [x_up_far (by omega)]); try rfl), ?_, hNb.fr (by intros; (repeat rw [x_up_far (by omega)]); try rfl) (by intros; (repeat rw [x_up_far (by omega)]); try rfl), hNr.fr (by intros; (repeat rw [x_up_far (by omega)]); try rfl) (by intros; (repeat rw [x_up_far (by omega)]); try rfl), hNd.fr (by intros; (repeat rw [x_up_far (by omega)]); try rfl) (by intros; (repeat rw [x_up_far (by omega)]); try rfl) (by (repeat rw [x_up_far (by omega)]); try rfl), hNg.fr ⟨by (repeat rw [x_up_far (by omega)]); try rfl, by (repeat rw [x_up_far (by omega)]); try rfl⟩ (by intros; (repeat rw [x_up_far (by omega)]); try rfl) (by intros; (repeat rw [x_up_far (by omega)]); try rfl), hNe.fr ⟨by (repeat rw [x_up_far (by omega)]); try rfl, by (repeat rw [x_up_far (by omega)]); try rfl, by (repeat rw [x_up_far (by omega)]); try rfl⟩ (by intros; (repeat rw [x_up_far (by omega)]); try rfl) (by intros; (repeat rw [x_up_far (by omega)]); try rfl), hNp.fr ⟨by (repeat rw [x_up_far (by omega)]); try rfl, by (repeat rw [x_up_far (by omega)]); try rfl, by (repeat rw [x_up_far (by omega)]); try rfl⟩ (by intros; (repeat rw [x_up_far (by omega)]); try rfl) (by intros; (repeat rw [x_up_far (by omega)]); try rfl), hNk.fr ⟨by (repeat rw [x_up_far (by omega)]); try rfl, by (repeat rw [x_up_far (by omega)]); try rfl, by (repeat rw [x_up_far (by omega)]); try rfl⟩ (by intros; (repeat rw [x_up_far (by omega)]); try rfl) (by intros; (repeat rw [x_up_far (by omega)]); try rfl)⟩, hI2, hT.fr ⟨by (repeat rw [x_up_far (by omega)]); try rfl, by (repeat rw [x_up_far (by omega)]); try rfl⟩ (by intros; (repeat rw [x_up_far (by omega)]); try rfl) (by intros; (repeat rw [x_up_far (by omega)]); try rfl) (by intros; (repeat rw [x_up_far (by omega)]); try rfl), hX.fr ⟨by (repeat rw [x_up_far (by omega)]); try rfl, by (repeat rw [x_up_far (by omega)]); try rfl⟩ (by intros; (repeat rw [x_up_far (by omega)]); try rfl), hC.fr ⟨by (repeat rw [x_up_far (by omega)]); try rfl, by (repeat rw [x_up_far (by omega)]); try rfl⟩ (by intros; (repeat rw [x_up_far (by omega)]); try rfl), hH.fr ⟨by (repeat rw [x_up_far (by omega)]); try rfl, by (repeat rw [x_up_far (by omega)]); try rfl, by (repeat rw [x_up_far (by omega)]); try rfl⟩ (by intros; (repeat rw [x_up_far (by omega)]); try rfl) (by intros; (repeat rw [x_up_far (by omega)]); try rfl), hQ.fr (by intros; (repeat rw [x_up_far (by omega)]); try rfl) (by intros; (repeat rw [x_up_far (by omega)]); try rfl) (by intros; (repeat rw [x_up_far (by omega)]); try rfl) (by intros; (repeat rw [x_up_far (by omega)]); try rfl)⟩
              · refine ⟨fun p hp => ?_, ?_, ?_⟩
                · have h1 := hna p hp
                  have h2 := hz.2.2 p hp
                  by_cases hpn : p = n
                  · subst hpn; simp only [if_true] at h2; simp [x_up, h2, x_b]
                  · rw [if_neg hpn] at h2; rw [x_up_at, h2, x_up_far (by omega), x_up_far (by omega)]; exact h1
                · rw [x_up_at]; exact hz.1
                · rw [x_up_at]; exact hz.2.1
          · exfalso; (first | omega | (split at haw <;> first | omega | contradiction))
      · exfalso; (first | omega | (split at haw <;> first | omega | contradiction))
    refine x_CQ.of (M := xM_G_away) rfl (Nat.le_of_ble_eq_true rfl) ?_
    refine ex_st 2 (pc' := 2) (ls' := [(0, xr 0), (1, xi t), (2, xi 1)]) (st' := [xi t, xr 0]) rfl ?_
    refine ex_call (ct_G_isOfficial2 (c := I 1 1) (by first | omega | (constructor <;> omega) | assumption | ((repeat rw [x_up_far (by omega)]); first | rfl | omega | (constructor <;> omega))) (by (repeat rw [x_up_far (by omega)]); try rfl) (by first | omega | (constructor <;> omega) | assumption | ((repeat rw [x_up_far (by omega)]); first | rfl | omega | (constructor <;> omega)))) (by decide) rfl ⟨rfl, rfl, rfl⟩ ⟨Nat.le_of_ble_eq_true rfl, rfl, rfl⟩ (Nat.le_of_ble_eq_true rfl) rfl ?_
    refine ex_bne rfl (fun h0 => ?_) (fun h0 => ?_)
    · exfalso; (first | omega | (split at haw <;> first | omega | contradiction))
    · refine ex_st 1 (pc' := 9) (ls' := [(0, xr 0), (1, xi t), (2, xi 1)]) (st' := [xi (-1)]) rfl ?_
      refine ex_reti rfl rfl ?_
      refine x_CQ.of (M := xM_m_away) rfl (Nat.le_of_ble_eq_true rfl) ?_
      refine ex_st 2 (pc' := 2) (ls' := [(0, xr 143), (1, xi t), (2, xi 1)]) (st' := [xi t, xr 143]) rfl ?_
      refine ex_call (ct_m_isOfficial2 (c := I 143 0) (by first | omega | (constructor <;> omega) | assumption | ((repeat rw [x_up_far (by omega)]); first | rfl | omega | (constructor <;> omega))) (by (repeat rw [x_up_far (by omega)]); try rfl) (by first | omega | (constructor <;> omega) | assumption | ((repeat rw [x_up_far (by omega)]); first | rfl | omega | (constructor <;> omega)))) (by decide) rfl ⟨rfl, rfl, rfl⟩ ⟨Nat.le_of_ble_eq_true rfl, rfl, rfl⟩ (Nat.le_of_ble_eq_true rfl) rfl ?_
      refine ex_bne rfl (fun h1 => ?_) (fun h1 => ?_)
      · exfalso; (first | omega | (split at haw <;> first | omega | contradiction))
      · refine ex_st 1 (pc' := 9) (ls' := [(0, xr 143), (1, xi t), (2, xi 1)]) (st' := [xi (-1)]) rfl ?_
        refine ex_reti rfl rfl ?_
        exact ⟨x_req (by first | rfl | omega), _, _, rfl, hR⟩
theorem op_feed {sc : List Int} {I : Nat → Nat → Int} {L : Nat → Nat → Int64} (hR : Rl I L) {n : Int} (hn : x_R n) : x_PQ sc xN_G_feed [xr 0, xi n] xN_m_feed [xr 143, xi n] (xSH, I, L) := by
  obtain ⟨⟨hNs, hNo, hNa, hNb, hNr, hNd, hNg, hNe, hNp, hNk⟩, hI, hT, hX, hC, hH, hQ⟩ := id hR
  have hs := hNs
  unfold RNs at hs
  obtain ⟨hx1, hx2, hx3, hx4⟩ := id hX
  obtain ⟨c, hc0⟩ := Int.eq_ofNat_of_zero_le hx2
  have hc1 : I 85 1 = (c : Int) := by omega
  refine x_CQ.of (M := xM_G_feed) rfl (Nat.le_of_ble_eq_true rfl) ?_
  refine ex_st 1 (pc' := 1) (ls' := [(0, xr 0), (1, xi n)]) (st' := [xi n]) rfl ?_
  refine ex_if rfl (by first | omega | (constructor <;> omega) | assumption) (fun (h0 : n < 0) => ?_) (fun (h0 : ¬ n < 0) => ?_)
  · refine ex_st 1 (pc' := 12) (ls' := [(0, xr 0), (1, xi n)]) (st' := [xi (-2)]) rfl ?_
    refine ex_reti rfl rfl ?_
    refine x_CQ.of (M := xM_m_feed) rfl (Nat.le_of_ble_eq_true rfl) ?_
    refine ex_st 4 (pc' := 5) (ls' := [(0, xr 143), (1, xi n)]) (st' := [xi 127, xi 0, xi n, xr 143]) rfl ?_
    refine ex_call (ct_m_in (by first | omega | (constructor <;> omega) | assumption) (by first | omega | (constructor <;> omega) | assumption) (by first | omega | (constructor <;> omega) | assumption)) (by decide) rfl ⟨rfl, rfl, rfl⟩ ⟨Nat.le_of_ble_eq_true rfl, rfl, rfl⟩ (Nat.le_of_ble_eq_true rfl) rfl ?_
    refine ex_bne rfl (fun h1 => ?_) (fun h1 => ?_)
    · exfalso; omega
    · refine ex_st 1 (pc' := 13) (ls' := [(0, xr 143), (1, xi n)]) (st' := [xi (-2)]) rfl ?_
      refine ex_reti rfl rfl ?_
      exact ⟨x_req (by first | rfl | omega), _, _, rfl, hR⟩
  · refine ex_st 2 (pc' := 7) (ls' := [(0, xr 0), (1, xi n)]) (st' := [xi 127, xi n]) rfl ?_
    refine ex_ic rfl (by first | omega | (constructor <;> omega) | assumption) (by decide) (fun (h2 : n ≤ 127) => ?_) (fun (h2 : ¬ n ≤ 127) => ?_)
    · refine ex_st 3 (pc' := 18) (ls' := [(0, xr 0), (1, xi n)]) (st' := [xi n, xr 85]) rfl ?_
      refine ex_inl (M' := xM_R_append) (as := [xr 85, xi n]) (rest := []) (D' := 28) rfl (Nat.le_of_ble_eq_true rfl) (by decide) rfl ⟨rfl, rfl, rfl⟩ ⟨Nat.le_of_ble_eq_true rfl, rfl, rfl⟩ (Nat.le_of_ble_eq_true rfl) rfl ?_
      refine ex_st 2 (pc' := 4) (ls' := [(0, xr 85), (1, xi n)]) (st' := [xi (I 85 1)]) rfl ?_
      rw [hc1]
      refine ex_st 1 (pc' := 6) (ls' := [(0, xr 85), (1, xi n)]) (st' := [xi 100, xi (↑c)]) rfl ?_
      refine ex_ic rfl (by first | omega | (constructor <;> omega) | assumption) (by decide) (fun (h3 : (↑c : Int) < 100) => ?_) (fun (h3 : ¬ (↑c : Int) < 100) => ?_)
      · refine ex_st 4 (pc' := 19) (ls' := [(0, xr 85), (1, xi n)]) (st' := [xi (I 85 1), xr 86]) rfl ?_
        rw [hc1]
        refine ex_st 2 (pc' := 21) (ls' := [(0, xr 85), (1, xi n)]) (st' := [xi (z_i2b n), xi (↑c), xr 86]) rfl ?_
        rw [z_i2b_id (by omega) (by omega)]
        refine ex_bast (j := c) rfl (by decide) (rfl : xSH[86]? = some _) (by omega) (by omega) (by decide) (by first | (right; exact ⟨rfl, x_b01 _⟩) | (right; simp; done) | (right; refine ⟨rfl, ?_⟩; omega) | (left; refine ⟨rfl, ?_, ?_⟩ <;> omega)) ?_
        refine ex_st 3 (pc' := 27) (ls' := [(0, xr 85), (1, xi n)]) (st' := [xi ((x_up I 86 c n) 85 1), xr 85]) rfl ?_
        rw [(x_up_far (by first | decide | omega) : (x_up I 86 c n) 85 1 = I 85 1)]
        rw [hc1]
        refine ex_st 2 (pc' := 29) (ls' := [(0, xr 85), (1, xi n)]) (st' := [xi ((↑c) + 1), xr 85]) rfl ?_
        refine ex_pfi rfl (by decide) (rfl : xSH[85]? = some _) (by decide) rfl (by decide) (fun h => by cases h) ?_
        refine ex_st 1 (pc' := 33) (ls' := [(0, xr 85), (1, xi n)]) (st' := [xi 1]) rfl ?_
        refine ex_retz rfl (Or.inr rfl) rfl ?_
        refine ex_st 1 (pc' := 24) (ls' := [(0, xr 0), (1, xi n)]) (st' := []) rfl ?_
        refine ex_st 3 (pc' := 31) (ls' := [(0, xr 0), (1, xi n)]) (st' := [xi ((x_up (x_up I 86 c n) 85 1 ((↑c) + 1)) 85 1)]) rfl ?_
        rw [x_up_at (x_up I 86 c n) 85 1 ((↑c) + 1)]
        refine ex_st 1 (pc' := 36) (ls' := [(0, xr 0), (1, xi n)]) (st' := [xi ((↑c) + 1)]) rfl ?_
        refine ex_reti rfl rfl ?_
        refine x_CQ.of (M := xM_m_feed) rfl (Nat.le_of_ble_eq_true rfl) ?_
        refine ex_st 4 (pc' := 5) (ls' := [(0, xr 143), (1, xi n)]) (st' := [xi 127, xi 0, xi n, xr 143]) rfl ?_
        refine ex_call (ct_m_in (by first | omega | (constructor <;> omega) | assumption) (by first | omega | (constructor <;> omega) | assumption) (by first | omega | (constructor <;> omega) | assumption)) (by decide) rfl ⟨rfl, rfl, rfl⟩ ⟨Nat.le_of_ble_eq_true rfl, rfl, rfl⟩ (Nat.le_of_ble_eq_true rfl) rfl ?_
        refine ex_bne rfl (fun h4 => ?_) (fun h4 => ?_)
        · refine ex_st 2 (pc' := 18) (ls' := [(0, xr 143), (1, xi n)]) (st' := [xi ((x_up (x_up I 86 c n) 85 1 ((↑c) + 1)) 143 14)]) rfl ?_
          rw [(x_up_far (by first | decide | omega) : (x_up (x_up I 86 c n) 85 1 ((↑c) + 1)) 143 14 = (x_up I 86 c n) 143 14)]
          rw [(x_up_far (by first | decide | omega) : (x_up I 86 c n) 143 14 = I 143 14)]
          rw [hc0]
          refine ex_st 1 (pc' := 20) (ls' := [(0, xr 143), (1, xi n)]) (st' := [xi 100, xi (↑c)]) rfl ?_
          refine ex_ic rfl (by first | omega | (constructor <;> omega) | assumption) (by decide) (fun (h5 : ¬ (↑c : Int) = 100) => ?_) (fun (h5 : ¬ ¬ (↑c : Int) = 100) => ?_)
          · refine ex_st 4 (pc' := 34) (ls' := [(0, xr 143), (1, xi n)]) (st' := [xi ((x_up (x_up I 86 c n) 85 1 ((↑c) + 1)) 143 14), xr 151]) rfl ?_
            rw [(x_up_far (by first | decide | omega) : (x_up (x_up I 86 c n) 85 1 ((↑c) + 1)) 143 14 = (x_up I 86 c n) 143 14)]
            rw [(x_up_far (by first | decide | omega) : (x_up I 86 c n) 143 14 = I 143 14)]
            rw [hc0]
            refine ex_st 1 (pc' := 35) (ls' := [(0, xr 143), (1, xi n)]) (st' := [xi n, xi (↑c), xr 151]) rfl ?_
            refine ex_iast (j := c) rfl (by decide) (rfl : xSH[151]? = some _) (by omega) (by omega) (by decide) ?_
            refine ex_st 3 (pc' := 41) (ls' := [(0, xr 143), (1, xi n)]) (st' := [xi ((x_up (x_up (x_up I 86 c n) 85 1 ((↑c) + 1)) 151 c n) 143 14), xr 143]) rfl ?_
            rw [(x_up_far (by first | decide | omega) : (x_up (x_up (x_up I 86 c n) 85 1 ((↑c) + 1)) 151 c n) 143 14 = (x_up (x_up I 86 c n) 85 1 ((↑c) + 1)) 143 14)]
            rw [(x_up_far (by first | decide | omega) : (x_up (x_up I 86 c n) 85 1 ((↑c) + 1)) 143 14 = (x_up I 86 c n) 143 14)]
            rw [(x_up_far (by first | decide | omega) : (x_up I 86 c n) 143 14 = I 143 14)]
            rw [hc0]
            refine ex_st 2 (pc' := 43) (ls' := [(0, xr 143), (1, xi n)]) (st' := [xi ((↑c) + 1), xr 143]) rfl ?_
            refine ex_pfi rfl (by decide) (rfl : xSH[143]? = some _) (by decide) rfl (by decide) (fun h => by cases h) ?_
            refine ex_st 2 (pc' := 50) (ls' := [(0, xr 143), (1, xi n)]) (st' := [xi ((x_up (x_up (x_up (x_up I 86 c n) 85 1 ((↑c) + 1)) 151 c n) 143 14 ((↑c) + 1)) 143 14)]) rfl ?_
            rw [x_up_at (x_up (x_up (x_up I 86 c n) 85 1 ((↑c) + 1)) 151 c n) 143 14 ((↑c) + 1)]
            refine ex_reti rfl rfl ?_
            refine ⟨x_req (by first | rfl | omega), ?_⟩
            refine ⟨_, _, rfl, ?_⟩
            have hI2 : RIw (x_up (x_up (x_up (x_up I 86 c n) 85 1 ((↑c) + 1)) 151 c n) 143 14 ((↑c) + 1)) := by
              obtain ⟨gs, go, ga, gb, gr, gd, gg, ge, gp, gk⟩ := id hI
              exact ⟨gs.fr ⟨by (repeat rw [x_up_far (by omega)]); try rfl, by (repeat rw [x_up_far (by omega)]); try rfl, by (repeat rw [x_up_far (by omega)]); try rfl, by (repeat rw [x_up_far (by omega)]); try rfl, by (repeat rw [x_up_far (by omega)]); try rfl, by (repeat rw [x_up_far (by omega)]); try rfl, by (repeat rw [x_up_far (by omega)]); try rfl, by (repeat rw [x_up_far (by omega)]); try rfl, by (repeat rw [x_up_far (by omega)]); try rfl⟩, go.fr (by intros; (repeat rw [x_up_far (by omega)]); try rfl) (by intros; (repeat rw [x_up_far (by omega)]); try rfl), ga.fr (by intros; (repeat rw [x_up_far (by omega)]); try rfl) (by (repeat rw [x_up_far (by omega)]); try rfl), gb.fr (by intros; (repeat rw [x_up_far (by omega)]); try rfl) (by intros; (repeat rw [x_up_far (by omega)]); try rfl), gr.fr (by intros; (repeat rw [x_up_far (by omega)]); try rfl) (by intros; (repeat rw [x_up_far (by omega)]); try rfl), gd.fr (by intros; (repeat rw [x_up_far (by omega)]); try rfl) (by intros; (repeat rw [x_up_far (by omega)]); try rfl) (by (repeat rw [x_up_far (by omega)]); try rfl), gg.fr ⟨by (repeat rw [x_up_far (by omega)]); try rfl, by (repeat rw [x_up_far (by omega)]); try rfl⟩ (by intros; (repeat rw [x_up_far (by omega)]); try rfl) (by intros; (repeat rw [x_up_far (by omega)]); try rfl), ge.fr ⟨by (repeat rw [x_up_far (by omega)]); try rfl, by (repeat rw [x_up_far (by omega)]); try rfl, by (repeat rw [x_up_far (by omega)]); try rfl⟩ (by intros; (repeat rw [x_up_far (by omega)]); try rfl) (by intros; (repeat rw [x_up_far (by omega)]); try rfl), gp.fr ⟨by (repeat rw [x_up_far (by omega)]); try rfl, by (repeat rw [x_up_far (by omega)]); try rfl, by (repeat rw [x_up_far (by omega)]); try rfl⟩ (by intros; (repeat rw [x_up_far (by omega)]); try rfl) (by intros; (repeat rw [x_up_far (by omega)]); try rfl), gk.fr ⟨by (repeat rw [x_up_far (by omega)]); try rfl, by (repeat rw [x_up_far (by omega)]); try rfl, by (repeat rw [x_up_far (by omega)]); try rfl⟩ (by intros; (repeat rw [x_up_far (by omega)]); try rfl) (by intros; (repeat rw [x_up_far (by omega)]); try rfl)⟩
            refine ⟨⟨hNs.fr ⟨by (repeat rw [x_up_far (by omega)]); try rfl, by (repeat rw [x_up_far (by omega)]); try rfl, by (repeat rw [x_up_far (by omega)]); try rfl, by (repeat rw [x_up_far (by omega)]); try rfl, by (repeat rw [x_up_far (by omega)]); try rfl, by (repeat rw [x_up_far (by omega)]); try rfl, by (repeat rw [x_up_far (by omega)]); try rfl, by (repeat rw [x_up_far (by omega)]); try rfl, by (repeat rw [x_up_far (by omega)]); try rfl⟩, hNo.fr (by intros; (repeat rw [x_up_far (by omega)]); try rfl) (by intros; (repeat rw [x_up_far (by omega)]); try rfl), hNa.fr (by intros; (repeat rw [x_up_far (by omega)]); try rfl) (by (repeat rw [x_up_far (by omega)]); try rfl), hNb.fr (by intros; (repeat rw [x_up_far (by omega)]); try rfl) (by intros; (repeat rw [x_up_far (by omega)]); try rfl), hNr.fr (by intros; (repeat rw [x_up_far (by omega)]); try rfl) (by intros; (repeat rw [x_up_far (by omega)]); try rfl), hNd.fr (by intros; (repeat rw [x_up_far (by omega)]); try rfl) (by intros; (repeat rw [x_up_far (by omega)]); try rfl) (by (repeat rw [x_up_far (by omega)]); try rfl), hNg.fr ⟨by (repeat rw [x_up_far (by omega)]); try rfl, by (repeat rw [x_up_far (by omega)]); try rfl⟩ (by intros; (repeat rw [x_up_far (by omega)]); try rfl) (by intros; (repeat rw [x_up_far (by omega)]); try rfl), hNe.fr ⟨by (repeat rw [x_up_far (by omega)]); try rfl, by (repeat rw [x_up_far (by omega)]); try rfl, by (repeat rw [x_up_far (by omega)]); try rfl⟩ (by intros; (repeat rw [x_up_far (by omega)]); try rfl) (by intros; (repeat rw [x_up_far (by omega)]); try rfl), hNp.fr ⟨by (repeat rw [x_up_far (by omega)]); try rfl, by (repeat rw [x_up_far (by omega)]); try rfl, by (repeat rw [x_up_far (by omega)]); try rfl⟩ (by intros; (repeat rw [x_up_far (by omega)]); try rfl) (by intros; (repeat rw [x_up_far (by omega)]); try rfl), hNk.fr ⟨by (repeat rw [x_up_far (by omega)]); try rfl, by (repeat rw [x_up_far (by omega)]); try rfl, by (repeat rw [x_up_far (by omega)]); try rfl⟩ (by intros; (repeat rw [x_up_far (by omega)]); try rfl) (by intros; (repeat rw [x_up_far (by omega)]); try rfl)⟩, hI2, hT.fr ⟨by (repeat rw [x_up_far (by omega)]); try rfl, by (repeat rw [x_up_far (by omega)]); try rfl⟩ (by intros; (repeat rw [x_up_far (by omega)]); try rfl) (by intros; (repeat rw [x_up_far (by omega)]); try rfl) (by intros; (repeat rw [x_up_far (by omega)]); try rfl), ?_, hC.fr ⟨by (repeat rw [x_up_far (by omega)]); try rfl, by (repeat rw [x_up_far (by omega)]); try rfl⟩ (by intros; (repeat rw [x_up_far (by omega)]); try rfl), hH.fr ⟨by (repeat rw [x_up_far (by omega)]); try rfl, by (repeat rw [x_up_far (by omega)]); try rfl, by (repeat rw [x_up_far (by omega)]); try rfl⟩ (by intros; (repeat rw [x_up_far (by omega)]); try rfl) (by intros; (repeat rw [x_up_far (by omega)]); try rfl), hQ.fr (by intros; (repeat rw [x_up_far (by omega)]); try rfl) (by intros; (repeat rw [x_up_far (by omega)]); try rfl) (by intros; (repeat rw [x_up_far (by omega)]); try rfl) (by intros; (repeat rw [x_up_far (by omega)]); try rfl)⟩
            · refine ⟨by simp [x_up], by simp [x_up]; omega, by simp [x_up]; omega, fun x hx => ?_⟩
              have hx : (x : Int) < c + 1 := by simpa [x_up] using hx
              by_cases hxc : x = c
              · subst hxc; simp [x_up]; omega
              · have h := hx4 x (by omega)
                repeat rw [x_up_far (by omega)]
                exact h
          · exfalso; omega
        · exfalso; omega
      · refine ex_st 1 (pc' := 10) (ls' := [(0, xr 85), (1, xi n)]) (st' := [xi 0]) rfl ?_
        refine ex_retz rfl (Or.inl rfl) rfl ?_
        refine ex_st 1 (pc' := 34) (ls' := [(0, xr 0), (1, xi n)]) (st' := []) rfl ?_
        refine ex_st 1 (pc' := 36) (ls' := [(0, xr 0), (1, xi n)]) (st' := [xi (-4)]) rfl ?_
        refine ex_reti rfl rfl ?_
        refine x_CQ.of (M := xM_m_feed) rfl (Nat.le_of_ble_eq_true rfl) ?_
        refine ex_st 4 (pc' := 5) (ls' := [(0, xr 143), (1, xi n)]) (st' := [xi 127, xi 0, xi n, xr 143]) rfl ?_
        refine ex_call (ct_m_in (by first | omega | (constructor <;> omega) | assumption) (by first | omega | (constructor <;> omega) | assumption) (by first | omega | (constructor <;> omega) | assumption)) (by decide) rfl ⟨rfl, rfl, rfl⟩ ⟨Nat.le_of_ble_eq_true rfl, rfl, rfl⟩ (Nat.le_of_ble_eq_true rfl) rfl ?_
        refine ex_bne rfl (fun h6 => ?_) (fun h6 => ?_)
        · refine ex_st 2 (pc' := 18) (ls' := [(0, xr 143), (1, xi n)]) (st' := [xi (I 143 14)]) rfl ?_
          rw [hc0]
          refine ex_st 1 (pc' := 20) (ls' := [(0, xr 143), (1, xi n)]) (st' := [xi 100, xi (↑c)]) rfl ?_
          refine ex_ic rfl (by first | omega | (constructor <;> omega) | assumption) (by decide) (fun (h7 : ¬ (↑c : Int) = 100) => ?_) (fun (h7 : ¬ ¬ (↑c : Int) = 100) => ?_)
          · exfalso; omega
          · refine ex_st 1 (pc' := 25) (ls' := [(0, xr 143), (1, xi n)]) (st' := [xi (-4)]) rfl ?_
            refine ex_reti rfl rfl ?_
            exact ⟨x_req (by first | rfl | omega), _, _, rfl, hR⟩
        · exfalso; omega
    · refine ex_st 1 (pc' := 12) (ls' := [(0, xr 0), (1, xi n)]) (st' := [xi (-2)]) rfl ?_
      refine ex_reti rfl rfl ?_
      refine x_CQ.of (M := xM_m_feed) rfl (Nat.le_of_ble_eq_true rfl) ?_
      refine ex_st 4 (pc' := 5) (ls' := [(0, xr 143), (1, xi n)]) (st' := [xi 127, xi 0, xi n, xr 143]) rfl ?_
      refine ex_call (ct_m_in (by first | omega | (constructor <;> omega) | assumption) (by first | omega | (constructor <;> omega) | assumption) (by first | omega | (constructor <;> omega) | assumption)) (by decide) rfl ⟨rfl, rfl, rfl⟩ ⟨Nat.le_of_ble_eq_true rfl, rfl, rfl⟩ (Nat.le_of_ble_eq_true rfl) rfl ?_
      refine ex_bne rfl (fun h8 => ?_) (fun h8 => ?_)
      · exfalso; omega
      · refine ex_st 1 (pc' := 13) (ls' := [(0, xr 143), (1, xi n)]) (st' := [xi (-2)]) rfl ?_
        refine ex_reti rfl rfl ?_
        exact ⟨x_req (by first | rfl | omega), _, _, rfl, hR⟩
