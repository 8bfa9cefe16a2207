/-! pairs of calls: tape, item, read, shift -/
theorem x_tsh (p : Nat) (hp : p < 6) : xSH[131 + 2 * p]? = some (5, 3, [none, none, some (131 + 2 * p + 1)]) ∧ xSH[131 + 2 * p + 1]? = some (23, 60, []) := by
  rcases (show p = 0 ∨ p = 1 ∨ p = 2 ∨ p = 3 ∨ p = 4 ∨ p = 5 by omega) with rfl | rfl | rfl | rfl | rfl | rfl <;> exact ⟨rfl, rfl⟩
theorem x_aa106 (p : Nat) (hp : p < 6) : ([some 131, some 133, some 135, some 137, some 139, some 141] : List (Option Nat))[p]? = some (some (131 + 2 * p)) := by
  rcases (show p = 0 ∨ p = 1 ∨ p = 2 ∨ p = 3 ∨ p = 4 ∨ p = 5 by omega) with rfl | rfl | rfl | rfl | rfl | rfl <;> rfl
theorem x_upL_at (L : Nat → Nat → Int64) (k j : Nat) (v : Int64) : x_upL L k j v k j = v := by simp [x_upL]
theorem x_upL_far {L : Nat → Nat → Int64} {k j k0 j0 : Nat} {v : Int64} (h : ¬ (k = k0 ∧ j = j0)) : x_upL L k0 j0 v k j = L k j := by
  unfold x_upL
  by_cases h1 : k = k0
  · rw [if_pos h1, if_neg (fun h2 => h ⟨h1, h2⟩)]
  · rw [if_neg h1]
theorem x_cpL_in {L : Nat → Nat → Int64} {a sp b dp n k j : Nat} (h : k = b ∧ dp ≤ j ∧ j < dp + n) : x_cpL L a sp b dp n k j = L a (sp + (j - dp)) := by
  unfold x_cpL; rw [if_pos h.1, if_pos h.2]
theorem x_cpL_far {L : Nat → Nat → Int64} {a sp b dp n k j : Nat} (h : ¬ (k = b ∧ dp ≤ j ∧ j < dp + n)) : x_cpL L a sp b dp n k j = L k j := by
  unfold x_cpL
  by_cases h1 : k = b
  · rw [if_pos h1, if_neg (fun h2 => h ⟨h1, h2⟩)]
  · rw [if_neg h1]
theorem lp_tps {sc : List Int} {D : Nat} {I : Nat → Nat → Int} {A : Nat} {u v : Int} {Q : Option xPV → xMem → Prop} (hA : xSH[A]? = some (5, 3, [none, none, some (A + 1)])) (hA1 : xSH[A + 1]? = some (23, 60, [])) (hlt : A + 1 < 1000) (i : Nat) (hi : i ≤ 60) (L : Nat → Nat → Int64) (kk : ∀ L' : Nat → Nat → Int64, (∀ j, i ≤ j → j < 60 → L' (A + 1) j = Int64.ofInt 0) → (∀ k j, ¬ (k = A + 1 ∧ i ≤ j ∧ j < 60) → L' k j = L k j) → Q none (xSH, I, L')) : x_Ex sc D xM_Tp_start 12 [(3, xi (↑i)), (0, xr A), (1, xi u), (2, xi v)] [] (xSH, I, L) Q := by
  refine ex_st 2 (pc' := 15) (ls' := [(3, xi (↑i)), (0, xr A), (1, xi u), (2, xi v)]) (st' := [xi 60, xi (↑i)]) rfl ?_
  refine ex_ic rfl (by constructor <;> omega) (by decide) (fun (h0 : (60 : Int) ≤ (↑i : Int)) => ?_) (fun (h0 : ¬ (60 : Int) ≤ (↑i : Int)) => ?_)
  · refine ex_retv rfl rfl ?_
    exact kk L (fun j a b => by omega) (fun _ _ _ => rfl)
  · refine ex_st 1 (pc' := 19) (ls' := [(3, xi (↑i)), (0, xr A), (1, xi u), (2, xi v)]) (st' := [xr A]) rfl ?_
    refine ex_gfr rfl (by omega) hA (by decide) (by decide) rfl ?_
    refine ex_st 2 (pc' := 24) (ls' := [(3, xi (↑i)), (0, xr A), (1, xi u), (2, xi v)]) (st' := [xl (Int64.ofInt 0), xi (↑i), xr (A + 1)]) rfl ?_
    refine ex_last (j := i) rfl (by omega) hA1 rfl (by omega) (by decide) ?_
    refine ex_st 2 (pc' := 12) (ls' := [(3, xi (↑i + 1)), (0, xr A), (1, xi u), (2, xi v)]) (st' := []) rfl ?_
    refine lp_tps hA hA1 hlt (i + 1) (by omega) _ (fun L' h1 h2 => kk L' (fun j a b => ?_) (fun k j hkj => ?_))
    · by_cases e : j = i
      · subst e; rw [h2 _ _ (by omega), x_upL_at]
      · exact h1 j (by omega) b
    · rw [h2 _ _ (by omega), x_upL_far (by omega)]
termination_by 60 - i
theorem lp_mtp {sc : List Int} {D : Nat} {I : Nat → Nat → Int} {t : Nat} {u v : Int} {Q : Option xPV → xMem → Prop} (ht : t < 6) (i : Nat) (hi : i ≤ 60) (L : Nat → Nat → Int64) (kk : ∀ L' : Nat → Nat → Int64, (∀ j, i ≤ j → j < 60 → L' 193 (60 * t + j) = Int64.ofInt 0) → (∀ k j, ¬ (k = 193 ∧ 60 * t + i ≤ j ∧ j < 60 * t + 60) → L' k j = L k j) → Q (some (xi 1)) (xSH, I, L')) : x_Ex sc D xM_m_tape 69 [(4, xi (↑i)), (0, xr 143), (1, xi (↑t)), (2, xi u), (3, xi v)] [] (xSH, I, L) Q := by
  refine ex_st 2 (pc' := 73) (ls' := [(4, xi (↑i)), (0, xr 143), (1, xi (↑t)), (2, xi u), (3, xi v)]) (st' := [xi 60, xi (↑i)]) rfl ?_
  refine ex_ic rfl (by constructor <;> omega) (by decide) (fun (h0 : (60 : Int) ≤ (↑i : Int)) => ?_) (fun (h0 : ¬ (60 : Int) ≤ (↑i : Int)) => ?_)
  · refine ex_st 1 (pc' := 96) (ls' := [(4, xi (↑i)), (0, xr 143), (1, xi (↑t)), (2, xi u), (3, xi v)]) (st' := [xi 1]) rfl ?_
    refine ex_reti rfl rfl ?_
    exact kk L (fun j a b => by omega) (fun _ _ _ => rfl)
  · refine ex_st 8 (pc' := 88) (ls' := [(4, xi (↑i)), (0, xr 143), (1, xi (↑t)), (2, xi u), (3, xi v)]) (st' := [xl (Int64.ofInt 0), xi ((60 * (↑t)) + (↑i)), xr 193]) rfl ?_
    refine ex_last (j := 60 * t + i) rfl (by decide) (rfl : xSH[193]? = some _) (by omega) (by omega) (by decide) ?_
    refine ex_st 2 (pc' := 69) (ls' := [(4, xi (↑i + 1)), (0, xr 143), (1, xi (↑t)), (2, xi u), (3, xi v)]) (st' := []) rfl ?_
    refine lp_mtp ht (i + 1) (by omega) _ (fun L' h1 h2 => kk L' (fun j a b => ?_) (fun k j hkj => ?_))
    · by_cases e : j = i
      · subst e; rw [h2 _ _ (by omega), x_upL_at]
      · exact h1 j (by omega) b
    · rw [h2 _ _ (by omega), x_upL_far (by omega)]
termination_by 60 - i
theorem lp_sh1 {sc : List Int} {D : Nat} {I : Nat → Nat → Int} {t a n : Nat} {u v : xPV} {Q : Option xPV → xMem → Prop} (ht : t < 6) (han : a + n ≤ 60) (i : Nat) (hi : i ≤ n) (L : Nat → Nat → Int64) (kk : ∀ L' : Nat → Nat → Int64, (∀ j, i ≤ j → j < n → L' 194 j = L 193 (60 * t + a + j)) → (∀ k j, k ≠ 194 → L' k j = L k j) → (∀ j, j < i → L' 194 j = L 194 j) → x_Ex sc D xM_m_shift 138 [(6, xi (↑n)), (0, xr 143), (1, xi (↑t)), (2, xi (↑a)), (3, u), (4, v), (5, xi (↑n))] [] (xSH, I, L') Q) : x_Ex sc D xM_m_shift 104 [(6, xi (↑i)), (0, xr 143), (1, xi (↑t)), (2, xi (↑a)), (3, u), (4, v), (5, xi (↑n))] [] (xSH, I, L) Q := by
  refine ex_st 2 (pc' := 108) (ls' := [(6, xi (↑i)), (0, xr 143), (1, xi (↑t)), (2, xi (↑a)), (3, u), (4, v), (5, xi (↑n))]) (st' := [xi (↑n), xi (↑i)]) rfl ?_
  refine ex_ic rfl (by constructor <;> omega) (by constructor <;> omega) (fun (h0 : (↑n : Int) ≤ (↑i : Int)) => ?_) (fun (h0 : ¬ (↑n : Int) ≤ (↑i : Int)) => ?_)
  · obtain rfl : i = n := by omega
    exact kk L (fun j a b => by omega) (fun _ _ _ => rfl) (fun _ _ => rfl)
  · refine ex_st 12 (pc' := 130) (ls' := [(6, xi (↑i)), (0, xr 143), (1, xi (↑t)), (2, xi (↑a)), (3, u), (4, v), (5, xi (↑n))]) (st' := [xi (((60 * (↑t)) + (↑a)) + (↑i)), xr 193, xi (↑i), xr 194]) rfl ?_
    refine ex_lald (j := 60 * t + a + i) rfl (by decide) (rfl : xSH[193]? = some _) (by omega) (by omega) (by decide) ?_
    refine ex_last (j := i) rfl (by decide) (rfl : xSH[194]? = some _) rfl (by omega) (by decide) ?_
    refine ex_st 2 (pc' := 104) (ls' := [(6, xi (↑i + 1)), (0, xr 143), (1, xi (↑t)), (2, xi (↑a)), (3, u), (4, v), (5, xi (↑n))]) (st' := []) rfl ?_
    refine lp_sh1 ht han (i + 1) (by omega) _ (fun L' h1 h2 h3 => kk L' (fun j a b => ?_) (fun k j hkj => ?_) (fun j hj => ?_))
    · by_cases e : j = i
      · subst e; rw [h3 _ (by omega), x_upL_at]
      · rw [h1 j (by omega) b, x_upL_far (by omega)]
    · rw [h2 _ _ hkj, x_upL_far (by omega)]
    · rw [h3 _ (by omega), x_upL_far (by omega)]
termination_by n - i
theorem lp_sh2 {sc : List Int} {D : Nat} {I : Nat → Nat → Int} {q b n : Nat} {u v : xPV} {Q : Option xPV → xMem → Prop} (hq : q < 6) (hbn : b + n ≤ 60) (i : Nat) (hi : i ≤ n) (L : Nat → Nat → Int64) (kk : ∀ L' : Nat → Nat → Int64, (∀ j, i ≤ j → j < n → L' 193 (60 * q + b + j) = L 194 j) → (∀ k j, ¬ (k = 193 ∧ 60 * q + b + i ≤ j ∧ j < 60 * q + b + n) → L' k j = L k j) → Q (some (xi (↑n))) (xSH, I, L')) : x_Ex sc D xM_m_shift 141 [(6, xi (↑i)), (0, xr 143), (1, u), (2, v), (3, xi (↑q)), (4, xi (↑b)), (5, xi (↑n))] [] (xSH, I, L) Q := by
  refine ex_st 2 (pc' := 145) (ls' := [(6, xi (↑i)), (0, xr 143), (1, u), (2, v), (3, xi (↑q)), (4, xi (↑b)), (5, xi (↑n))]) (st' := [xi (↑n), xi (↑i)]) rfl ?_
  refine ex_ic rfl (by constructor <;> omega) (by constructor <;> omega) (fun (h0 : (↑n : Int) ≤ (↑i : Int)) => ?_) (fun (h0 : ¬ (↑n : Int) ≤ (↑i : Int)) => ?_)
  · refine ex_st 1 (pc' := 178) (ls' := [(6, xi (↑i)), (0, xr 143), (1, u), (2, v), (3, xi (↑q)), (4, xi (↑b)), (5, xi (↑n))]) (st' := [xi (↑n)]) rfl ?_
    refine ex_reti rfl rfl ?_
    exact kk L (fun j a b => by omega) (fun _ _ _ => rfl)
  · refine ex_st 12 (pc' := 168) (ls' := [(6, xi (↑i)), (0, xr 143), (1, u), (2, v), (3, xi (↑q)), (4, xi (↑b)), (5, xi (↑n))]) (st' := [xi (↑i), xr 194, xi (((60 * (↑q)) + (↑b)) + (↑i)), xr 193]) rfl ?_
    refine ex_lald (j := i) rfl (by decide) (rfl : xSH[194]? = some _) rfl (by omega) (by decide) ?_
    refine ex_last (j := 60 * q + b + i) rfl (by decide) (rfl : xSH[193]? = some _) (by omega) (by omega) (by decide) ?_
    refine ex_st 2 (pc' := 141) (ls' := [(6, xi (↑i + 1)), (0, xr 143), (1, u), (2, v), (3, xi (↑q)), (4, xi (↑b)), (5, xi (↑n))]) (st' := []) rfl ?_
    refine lp_sh2 hq hbn (i + 1) (by omega) _ (fun L' h1 h2 => kk L' (fun j a b => ?_) (fun k j hkj => ?_))
    · by_cases e : j = i
      · subst e; rw [h2 _ _ (by omega), x_upL_at]
      · rw [h1 j (by omega) b, x_upL_far (by omega)]
    · rw [h2 _ _ (by omega), x_upL_far (by omega)]
termination_by n - i

theorem op_tape {sc : List Int} {I : Nat → Nat → Int} {L : Nat → Nat → Int64} (hR : Rl I L) {t s w : Int} (ht : x_R t) (hs0 : x_R s) (hw : x_R w) : x_PQ sc xN_G_tape [xr 0, xi t, xi s, xi w] xN_m_tape [xr 143, xi t, xi s, xi w] (xSH, I, L) := by
  obtain ⟨⟨hNs, hNo, hNa, hNb, hNr, hNd, hNg, hNe, hNp, hNk⟩, hI, hT, hX, hC, hH, hQ⟩ := id hR
  have hs := hNs
  unfold RNs at hs
  by_cases hv : 0 ≤ t ∧ t < 6
  · obtain ⟨n, rfl⟩ := Int.eq_ofNat_of_zero_le hv.1
    have hq := hQ n (by omega)
    refine x_CQ.of (M := xM_G_tape) rfl (Nat.le_of_ble_eq_true rfl) ?_
    refine ex_st 1 (pc' := 1) (ls' := [(0, xr 0), (1, xi (↑n)), (2, xi s), (3, xi w)]) (st' := [xi (↑n)]) rfl ?_
    refine ex_call (ct_G_isTape (by first | omega | (constructor <;> omega) | assumption)) (by decide) rfl ⟨rfl, rfl, rfl⟩ ⟨Nat.le_of_ble_eq_true rfl, rfl, rfl⟩ (Nat.le_of_ble_eq_true rfl) rfl ?_
    refine ex_bne rfl (fun h0 => ?_) (fun h0 => ?_)
    · refine ex_st 2 (pc' := 11) (ls' := [(0, xr 0), (1, xi (↑n)), (2, xi s), (3, xi w)]) (st' := [xi (-1), xi s]) rfl ?_
      refine ex_ic rfl (by first | omega | (constructor <;> omega) | assumption) (by decide) (fun (h1 : ¬ s = (-1)) => ?_) (fun (h1 : ¬ ¬ s = (-1)) => ?_)
      · refine ex_st 1 (pc' := 28) (ls' := [(0, xr 0), (1, xi (↑n)), (2, xi s), (3, xi w)]) (st' := [xi s]) rfl ?_
        refine ex_if rfl (by first | omega | (constructor <;> omega) | assumption) (fun (h2 : s < 0) => ?_) (fun (h2 : ¬ s < 0) => ?_)
        · refine ex_st 1 (pc' := 44) (ls' := [(0, xr 0), (1, xi (↑n)), (2, xi s), (3, xi w)]) (st' := [xi (-2)]) rfl ?_
          refine ex_reti rfl rfl ?_
          refine x_CQ.of (M := xM_m_tape) rfl (Nat.le_of_ble_eq_true rfl) ?_
          refine ex_st 2 (pc' := 2) (ls' := [(0, xr 143), (1, xi (↑n)), (2, xi s), (3, xi w)]) (st' := [xi (↑n), xr 143]) rfl ?_
          refine ex_call (ct_m_isTape (by first | omega | (constructor <;> omega) | assumption)) (by decide) rfl ⟨rfl, rfl, rfl⟩ ⟨Nat.le_of_ble_eq_true rfl, rfl, rfl⟩ (Nat.le_of_ble_eq_true rfl) rfl ?_
          refine ex_bne rfl (fun h3 => ?_) (fun h3 => ?_)
          · refine ex_st 4 (pc' := 14) (ls' := [(0, xr 143), (1, xi (↑n)), (2, xi s), (3, xi w)]) (st' := [xi 4, xi (-1), xi s, xr 143]) rfl ?_
            refine ex_call (ct_m_in (by first | omega | (constructor <;> omega) | assumption) (by first | omega | (constructor <;> omega) | assumption) (by first | omega | (constructor <;> omega) | assumption)) (by decide) rfl ⟨rfl, rfl, rfl⟩ ⟨Nat.le_of_ble_eq_true rfl, rfl, rfl⟩ (Nat.le_of_ble_eq_true rfl) rfl ?_
            refine ex_beq rfl (fun h4 => ?_) (fun h4 => ?_)
            · refine ex_st 1 (pc' := 32) (ls' := [(0, xr 143), (1, xi (↑n)), (2, xi s), (3, xi w)]) (st' := [xi (-2)]) rfl ?_
              refine ex_reti rfl rfl ?_
              exact ⟨x_req (by first | rfl | omega), _, _, rfl, hR⟩
            · exfalso; omega
          · exfalso; omega
        · refine ex_st 2 (pc' := 33) (ls' := [(0, xr 0), (1, xi (↑n)), (2, xi s), (3, xi w)]) (st' := [xi 4, xi s]) rfl ?_
          refine ex_ic rfl (by first | omega | (constructor <;> omega) | assumption) (by decide) (fun (h5 : ((4 : Int)) < s) => ?_) (fun (h5 : ¬ ((4 : Int)) < s) => ?_)
          · refine ex_st 1 (pc' := 44) (ls' := [(0, xr 0), (1, xi (↑n)), (2, xi s), (3, xi w)]) (st' := [xi (-2)]) rfl ?_
            refine ex_reti rfl rfl ?_
            refine x_CQ.of (M := xM_m_tape) rfl (Nat.le_of_ble_eq_true rfl) ?_
            refine ex_st 2 (pc' := 2) (ls' := [(0, xr 143), (1, xi (↑n)), (2, xi s), (3, xi w)]) (st' := [xi (↑n), xr 143]) rfl ?_
            refine ex_call (ct_m_isTape (by first | omega | (constructor <;> omega) | assumption)) (by decide) rfl ⟨rfl, rfl, rfl⟩ ⟨Nat.le_of_ble_eq_true rfl, rfl, rfl⟩ (Nat.le_of_ble_eq_true rfl) rfl ?_
            refine ex_bne rfl (fun h6 => ?_) (fun h6 => ?_)
            · refine ex_st 4 (pc' := 14) (ls' := [(0, xr 143), (1, xi (↑n)), (2, xi s), (3, xi w)]) (st' := [xi 4, xi (-1), xi s, xr 143]) rfl ?_
              refine ex_call (ct_m_in (by first | omega | (constructor <;> omega) | assumption) (by first | omega | (constructor <;> omega) | assumption) (by first | omega | (constructor <;> omega) | assumption)) (by decide) rfl ⟨rfl, rfl, rfl⟩ ⟨Nat.le_of_ble_eq_true rfl, rfl, rfl⟩ (Nat.le_of_ble_eq_true rfl) rfl ?_
              refine ex_beq rfl (fun h7 => ?_) (fun h7 => ?_)
              · refine ex_st 1 (pc' := 32) (ls' := [(0, xr 143), (1, xi (↑n)), (2, xi s), (3, xi w)]) (st' := [xi (-2)]) rfl ?_
                refine ex_reti rfl rfl ?_
                exact ⟨x_req (by first | rfl | omega), _, _, rfl, hR⟩
              · exfalso; omega
            · exfalso; omega
          · refine ex_st 2 (pc' := 39) (ls' := [(0, xr 0), (1, xi (↑n)), (2, xi s), (3, xi w)]) (st' := [xi 60, xi w]) rfl ?_
            refine ex_ic rfl (by first | omega | (constructor <;> omega) | assumption) (by decide) (fun (h8 : w ≤ 60) => ?_) (fun (h8 : ¬ w ≤ 60) => ?_)
            · refine ex_st 1 (pc' := 46) (ls' := [(0, xr 0), (1, xi (↑n)), (2, xi s), (3, xi w)]) (st' := [xi w]) rfl ?_
              refine ex_if rfl (by first | omega | (constructor <;> omega) | assumption) (fun (h9 : ((0 : Int)) ≤ w) => ?_) (fun (h9 : ¬ ((0 : Int)) ≤ w) => ?_)
              · refine ex_st 3 (pc' := 57) (ls' := [(0, xr 0), (1, xi (↑n)), (2, xi s), (3, xi w)]) (st' := [xi (↑n), xr 106]) rfl ?_
                refine ex_aald (q := 131 + 2 * n) (j := n) rfl (by decide) (rfl : xSH[106]? = some _) (by decide) (by omega) (by omega) (by decide) (x_aa106 n (by omega)) (by omega) ?_
                refine ex_st 2 (pc' := 60) (ls' := [(0, xr 0), (1, xi (↑n)), (2, xi s), (3, xi w)]) (st' := [xi w, xi s, xr (131 + 2 * n)]) rfl ?_
                refine ex_inl (M' := xM_Tp_start) (as := [xr (131 + 2 * n), xi s, xi w]) (rest := []) (D' := 28) rfl (Nat.le_of_ble_eq_true rfl) (by decide) rfl ⟨rfl, rfl, rfl⟩ ⟨Nat.le_of_ble_eq_true rfl, rfl, rfl⟩ (Nat.le_of_ble_eq_true rfl) (x_recv_v (by omega) (x_tsh n (by omega)).1 (by decide)) ?_
                refine ex_st 2 (pc' := 2) (ls' := [(0, xr (131 + 2 * n)), (1, xi s), (2, xi w)]) (st' := [xi s, xr (131 + 2 * n)]) rfl ?_
                refine ex_pfi rfl (by omega) (x_tsh n (by omega)).1 (by decide) rfl (by decide) (fun h => by cases h) ?_
                refine ex_st 2 (pc' := 7) (ls' := [(0, xr (131 + 2 * n)), (1, xi s), (2, xi w)]) (st' := [xi w, xr (131 + 2 * n)]) rfl ?_
                refine ex_pfi rfl (by omega) (x_tsh n (by omega)).1 (by decide) rfl (by decide) (fun h => by cases h) ?_
                refine ex_st 2 (pc' := 12) (ls' := [(3, xi 0), (0, xr (131 + 2 * n)), (1, xi s), (2, xi w)]) (st' := []) rfl ?_
                refine lp_tps (x_tsh n (by omega)).1 (x_tsh n (by omega)).2 (by omega) 0 (by decide) _ (fun L1 hL1 hL2 => ?_)
                refine ex_st 1 (pc' := 64) (ls' := [(0, xr 0), (1, xi (↑n)), (2, xi s), (3, xi w)]) (st' := [xi 1]) rfl ?_
                refine ex_reti rfl rfl ?_
                refine x_CQ.of (M := xM_m_tape) rfl (Nat.le_of_ble_eq_true rfl) ?_
                refine ex_st 2 (pc' := 2) (ls' := [(0, xr 143), (1, xi (↑n)), (2, xi s), (3, xi w)]) (st' := [xi (↑n), xr 143]) rfl ?_
                refine ex_call (ct_m_isTape (by first | omega | (constructor <;> omega) | assumption)) (by decide) rfl ⟨rfl, rfl, rfl⟩ ⟨Nat.le_of_ble_eq_true rfl, rfl, rfl⟩ (Nat.le_of_ble_eq_true rfl) rfl ?_
                refine ex_bne rfl (fun h10 => ?_) (fun h10 => ?_)
                · refine ex_st 4 (pc' := 14) (ls' := [(0, xr 143), (1, xi (↑n)), (2, xi s), (3, xi w)]) (st' := [xi 4, xi (-1), xi s, xr 143]) rfl ?_
                  refine ex_call (ct_m_in (by first | omega | (constructor <;> omega) | assumption) (by first | omega | (constructor <;> omega) | assumption) (by first | omega | (constructor <;> omega) | assumption)) (by decide) rfl ⟨rfl, rfl, rfl⟩ ⟨Nat.le_of_ble_eq_true rfl, rfl, rfl⟩ (Nat.le_of_ble_eq_true rfl) rfl ?_
                  refine ex_beq rfl (fun h11 => ?_) (fun h11 => ?_)
                  · exfalso; omega
                  · refine ex_st 1 (pc' := 21) (ls' := [(0, xr 143), (1, xi (↑n)), (2, xi s), (3, xi w)]) (st' := [xi s]) rfl ?_
                    refine ex_if rfl (by first | omega | (constructor <;> omega) | assumption) (fun (h12 : s < 0) => ?_) (fun (h12 : ¬ s < 0) => ?_)
                    · exfalso; omega
                    · refine ex_st 2 (pc' := 27) (ls' := [(0, xr 143), (1, xi (↑n)), (2, xi s), (3, xi w)]) (st' := [xi 60, xi w]) rfl ?_
                      refine ex_ic rfl (by first | omega | (constructor <;> omega) | assumption) (by decide) (fun (h13 : w ≤ 60) => ?_) (fun (h13 : ¬ w ≤ 60) => ?_)
                      · refine ex_st 1 (pc' := 34) (ls' := [(0, xr 143), (1, xi (↑n)), (2, xi s), (3, xi w)]) (st' := [xi s]) rfl ?_
                        refine ex_if rfl (by first | omega | (constructor <;> omega) | assumption) (fun (h14 : s < 0) => ?_) (fun (h14 : ¬ s < 0) => ?_)
                        · exfalso; omega
                        · refine ex_st 1 (pc' := 38) (ls' := [(0, xr 143), (1, xi (↑n)), (2, xi s), (3, xi w)]) (st' := [xi w]) rfl ?_
                          refine ex_if rfl (by first | omega | (constructor <;> omega) | assumption) (fun (h15 : ((0 : Int)) ≤ w) => ?_) (fun (h15 : ¬ ((0 : Int)) ≤ w) => ?_)
                          · refine ex_st 4 (pc' := 50) (ls' := [(0, xr 143), (1, xi (↑n)), (2, xi s), (3, xi w)]) (st' := [xi s, xi (↑n), xr 191]) rfl ?_
                            refine ex_iast (j := n) rfl (by decide) (rfl : xSH[191]? = some _) (by omega) (by omega) (by decide) ?_
                            refine ex_st 4 (pc' := 57) (ls' := [(0, xr 143), (1, xi (↑n)), (2, xi s), (3, xi w)]) (st' := [xi s, xi (↑n), xr 192]) rfl ?_
                            refine ex_if rfl (by first | omega | (constructor <;> omega) | assumption) (fun (h16 : ((0 : Int)) ≤ s) => ?_) (fun (h16 : ¬ ((0 : Int)) ≤ s) => ?_)
                            · refine ex_st 1 (pc' := 65) (ls' := [(0, xr 143), (1, xi (↑n)), (2, xi s), (3, xi w)]) (st' := [xi w, xi (↑n), xr 192]) rfl ?_
                              refine ex_iast (j := n) rfl (by decide) (rfl : xSH[192]? = some _) (by omega) (by omega) (by decide) ?_
                              refine ex_st 2 (pc' := 69) (ls' := [(4, xi 0), (0, xr 143), (1, xi (↑n)), (2, xi s), (3, xi w)]) (st' := []) rfl ?_
                              refine lp_mtp (by omega) 0 (by decide) _ (fun L2 hM1 hM2 => ?_)
                              refine ⟨x_req (by first | rfl | omega), ?_⟩
                              refine ⟨_, _, rfl, ?_⟩
                              generalize hM : (x_up (x_up (x_up (x_up I (131 + 2 * n) 0 s) (131 + 2 * n) 1 w) 191 n s) 192 n w) = I2
                              have hF : ∀ k j, ¬ ((k = 192 ∧ j = n) ∨ (k = 191 ∧ j = n) ∨ (k = 131 + 2 * n ∧ j = 1) ∨ (k = 131 + 2 * n ∧ j = 0)) → I2 k j = I k j := by intro k j hk; rw [← hM]; (repeat rw [x_up_far (by omega)])
                              have hw0 : I2 192 n = w := by rw [← hM]; (repeat (first | rw [x_up_far (by omega)] | rw [x_up_at2 (by omega) (by omega)]))
                              have hw1 : I2 191 n = s := by rw [← hM]; (repeat (first | rw [x_up_far (by omega)] | rw [x_up_at2 (by omega) (by omega)]))
                              have hw2 : I2 (131 + 2 * n) 1 = w := by rw [← hM]; (repeat (first | rw [x_up_far (by omega)] | rw [x_up_at2 (by omega) (by omega)]))
                              have hw3 : I2 (131 + 2 * n) 0 = s := by rw [← hM]; (repeat (first | rw [x_up_far (by omega)] | rw [x_up_at2 (by omega) (by omega)]))
                              clear hM
                              have hI2 : RIw I2 := by
                                obtain ⟨gs, go, ga, gb, gr, gd, gg, ge, gp, gk⟩ := id hI
                                exact ⟨gs.fr ⟨by (repeat rw [hF _ _ (by omega)]); try rfl, by (repeat rw [hF _ _ (by omega)]); try rfl, by (repeat rw [hF _ _ (by omega)]); try rfl, by (repeat rw [hF _ _ (by omega)]); try rfl, by (repeat rw [hF _ _ (by omega)]); try rfl, by (repeat rw [hF _ _ (by omega)]); try rfl, by (repeat rw [hF _ _ (by omega)]); try rfl, by (repeat rw [hF _ _ (by omega)]); try rfl, by (repeat rw [hF _ _ (by omega)]); try rfl⟩, go.fr (by intros; (repeat rw [hF _ _ (by omega)]); try rfl) (by intros; (repeat rw [hF _ _ (by omega)]); try rfl), ga.fr (by intros; (repeat rw [hF _ _ (by omega)]); try rfl) (by (repeat rw [hF _ _ (by omega)]); try rfl), gb.fr (by intros; (repeat rw [hF _ _ (by omega)]); try rfl) (by intros; (repeat rw [hF _ _ (by omega)]); try rfl), gr.fr (by intros; (repeat rw [hF _ _ (by omega)]); try rfl) (by intros; (repeat rw [hF _ _ (by omega)]); try rfl), gd.fr (by intros; (repeat rw [hF _ _ (by omega)]); try rfl) (by intros; (repeat rw [hF _ _ (by omega)]); try rfl) (by (repeat rw [hF _ _ (by omega)]); try rfl), gg.fr ⟨by (repeat rw [hF _ _ (by omega)]); try rfl, by (repeat rw [hF _ _ (by omega)]); try rfl⟩ (by intros; (repeat rw [hF _ _ (by omega)]); try rfl) (by intros; (repeat rw [hF _ _ (by omega)]); try rfl), ge.fr ⟨by (repeat rw [hF _ _ (by omega)]); try rfl, by (repeat rw [hF _ _ (by omega)]); try rfl, by (repeat rw [hF _ _ (by omega)]); try rfl⟩ (by intros; (repeat rw [hF _ _ (by omega)]); try rfl) (by intros; (repeat rw [hF _ _ (by omega)]); try rfl), gp.fr ⟨by (repeat rw [hF _ _ (by omega)]); try rfl, by (repeat rw [hF _ _ (by omega)]); try rfl, by (repeat rw [hF _ _ (by omega)]); try rfl⟩ (by intros; (repeat rw [hF _ _ (by omega)]); try rfl) (by intros; (repeat rw [hF _ _ (by omega)]); try rfl), gk.fr ⟨by (repeat rw [hF _ _ (by omega)]); try rfl, by (repeat rw [hF _ _ (by omega)]); try rfl, by (repeat rw [hF _ _ (by omega)]); try rfl⟩ (by intros; (repeat rw [hF _ _ (by omega)]); try rfl) (by intros; (repeat rw [hF _ _ (by omega)]); try rfl)⟩
                              refine ⟨⟨hNs.fr ⟨by (repeat rw [hF _ _ (by omega)]); try rfl, by (repeat rw [hF _ _ (by omega)]); try rfl, by (repeat rw [hF _ _ (by omega)]); try rfl, by (repeat rw [hF _ _ (by omega)]); try rfl, by (repeat rw [hF _ _ (by omega)]); try rfl, by (repeat rw [hF _ _ (by omega)]); try rfl, by (repeat rw [hF _ _ (by omega)]); try rfl, by (repeat rw [hF _ _ (by omega)]); try rfl, by (repeat rw [hF _ _ (by omega)]); try rfl⟩, hNo.fr (by intros; (repeat rw [hF _ _ (by omega)]); try rfl) (by intros; (repeat rw [hF _ _ (by omega)]); try rfl), hNa.fr (by intros; (repeat rw [hF _ _ (by omega)]); try rfl) (by (repeat rw [hF _ _ (by omega)]); try rfl), hNb.fr (by intros; (repeat rw [hF _ _ (by omega)]); try rfl) (by intros; (repeat rw [hF _ _ (by omega)]); try rfl), hNr.fr (by intros; (repeat rw [hF _ _ (by omega)]); try rfl) (by intros; (repeat rw [hF _ _ (by omega)]); try rfl), hNd.fr (by intros; (repeat rw [hF _ _ (by omega)]); try rfl) (by intros; (repeat rw [hF _ _ (by omega)]); try rfl) (by (repeat rw [hF _ _ (by omega)]); try rfl), hNg.fr ⟨by (repeat rw [hF _ _ (by omega)]); try rfl, by (repeat rw [hF _ _ (by omega)]); try rfl⟩ (by intros; (repeat rw [hF _ _ (by omega)]); try rfl) (by intros; (repeat rw [hF _ _ (by omega)]); try rfl), hNe.fr ⟨by (repeat rw [hF _ _ (by omega)]); try rfl, by (repeat rw [hF _ _ (by omega)]); try rfl, by (repeat rw [hF _ _ (by omega)]); try rfl⟩ (by intros; (repeat rw [hF _ _ (by omega)]); try rfl) (by intros; (repeat rw [hF _ _ (by omega)]); try rfl), hNp.fr ⟨by (repeat rw [hF _ _ (by omega)]); try rfl, by (repeat rw [hF _ _ (by omega)]); try rfl, by (repeat rw [hF _ _ (by omega)]); try rfl⟩ (by intros; (repeat rw [hF _ _ (by omega)]); try rfl) (by intros; (repeat rw [hF _ _ (by omega)]); try rfl), hNk.fr ⟨by (repeat rw [hF _ _ (by omega)]); try rfl, by (repeat rw [hF _ _ (by omega)]); try rfl, by (repeat rw [hF _ _ (by omega)]); try rfl⟩ (by intros; (repeat rw [hF _ _ (by omega)]); try rfl) (by intros; (repeat rw [hF _ _ (by omega)]); try rfl)⟩, hI2, hT.fr ⟨by (repeat rw [hF _ _ (by omega)]); try rfl, by (repeat rw [hF _ _ (by omega)]); try rfl⟩ (by intros; (repeat rw [hF _ _ (by omega)]); try rfl) (by intros; (repeat rw [hF _ _ (by omega)]); try rfl) (by intros; (repeat rw [hF _ _ (by omega)]); try rfl), hX.fr ⟨by (repeat rw [hF _ _ (by omega)]); try rfl, by (repeat rw [hF _ _ (by omega)]); try rfl⟩ (by intros; (repeat rw [hF _ _ (by omega)]); try rfl), hC.fr ⟨by (repeat rw [hF _ _ (by omega)]); try rfl, by (repeat rw [hF _ _ (by omega)]); try rfl⟩ (by intros; (repeat rw [hF _ _ (by omega)]); try rfl), hH.fr ⟨by (repeat rw [hF _ _ (by omega)]); try rfl, by (repeat rw [hF _ _ (by omega)]); try rfl, by (repeat rw [hF _ _ (by omega)]); try rfl⟩ (by intros; (repeat rw [hF _ _ (by omega)]); try rfl) (by intros; (repeat rw [hF _ _ (by omega)]); try rfl), ?_⟩
                              · intro p hp
                                obtain ⟨z1, z2, z3, z4, z5, z6, z7, z8⟩ := hQ p hp
                                by_cases e : p = n
                                · subst e; (repeat (first | rw [hw0] | rw [hw1] | rw [hw2] | rw [hw3] | rw [hF _ _ (by omega)]))
                                  refine ⟨by omega, by omega, by omega, by omega, by omega, by omega, by omega, fun j hj => ?_⟩
                                  rw [hM1 j (by omega) hj, hM2 _ _ (by omega), hL1 j (by omega) hj]
                                · (repeat (first | rw [hw0] | rw [hw1] | rw [hw2] | rw [hw3] | rw [hF _ _ (by omega)]))
                                  refine ⟨by omega, by omega, by omega, by omega, by omega, by omega, by omega, fun j hj => ?_⟩
                                  rw [hM2 _ _ (by omega), hM2 _ _ (by omega), hL2 _ _ (by omega), hL2 _ _ (by omega)]; exact z8 j hj
                            · exfalso; omega
                          · exfalso; omega
                      · exfalso; omega
                · exfalso; omega
              · refine ex_st 1 (pc' := 51) (ls' := [(0, xr 0), (1, xi (↑n)), (2, xi s), (3, xi w)]) (st' := [xi (-14)]) rfl ?_
                refine ex_reti rfl rfl ?_
                refine x_CQ.of (M := xM_m_tape) rfl (Nat.le_of_ble_eq_true rfl) ?_
                refine ex_st 2 (pc' := 2) (ls' := [(0, xr 143), (1, xi (↑n)), (2, xi s), (3, xi w)]) (st' := [xi (↑n), xr 143]) rfl ?_
                refine ex_call (ct_m_isTape (by first | omega | (constructor <;> omega) | assumption)) (by decide) rfl ⟨rfl, rfl, rfl⟩ ⟨Nat.le_of_ble_eq_true rfl, rfl, rfl⟩ (Nat.le_of_ble_eq_true rfl) rfl ?_
                refine ex_bne rfl (fun h17 => ?_) (fun h17 => ?_)
                · refine ex_st 4 (pc' := 14) (ls' := [(0, xr 143), (1, xi (↑n)), (2, xi s), (3, xi w)]) (st' := [xi 4, xi (-1), xi s, xr 143]) rfl ?_
                  refine ex_call (ct_m_in (by first | omega | (constructor <;> omega) | assumption) (by first | omega | (constructor <;> omega) | assumption) (by first | omega | (constructor <;> omega) | assumption)) (by decide) rfl ⟨rfl, rfl, rfl⟩ ⟨Nat.le_of_ble_eq_true rfl, rfl, rfl⟩ (Nat.le_of_ble_eq_true rfl) rfl ?_
                  refine ex_beq rfl (fun h18 => ?_) (fun h18 => ?_)
                  · exfalso; omega
                  · refine ex_st 1 (pc' := 21) (ls' := [(0, xr 143), (1, xi (↑n)), (2, xi s), (3, xi w)]) (st' := [xi s]) rfl ?_
                    refine ex_if rfl (by first | omega | (constructor <;> omega) | assumption) (fun (h19 : s < 0) => ?_) (fun (h19 : ¬ s < 0) => ?_)
                    · exfalso; omega
                    · refine ex_st 2 (pc' := 27) (ls' := [(0, xr 143), (1, xi (↑n)), (2, xi s), (3, xi w)]) (st' := [xi 60, xi w]) rfl ?_
                      refine ex_ic rfl (by first | omega | (constructor <;> omega) | assumption) (by decide) (fun (h20 : w ≤ 60) => ?_) (fun (h20 : ¬ w ≤ 60) => ?_)
                      · refine ex_st 1 (pc' := 34) (ls' := [(0, xr 143), (1, xi (↑n)), (2, xi s), (3, xi w)]) (st' := [xi s]) rfl ?_
                        refine ex_if rfl (by first | omega | (constructor <;> omega) | assumption) (fun (h21 : s < 0) => ?_) (fun (h21 : ¬ s < 0) => ?_)
                        · exfalso; omega
                        · refine ex_st 1 (pc' := 38) (ls' := [(0, xr 143), (1, xi (↑n)), (2, xi s), (3, xi w)]) (st' := [xi w]) rfl ?_
                          refine ex_if rfl (by first | omega | (constructor <;> omega) | assumption) (fun (h22 : ((0 : Int)) ≤ w) => ?_) (fun (h22 : ¬ ((0 : Int)) ≤ w) => ?_)
                          · exfalso; omega
                          · refine ex_st 1 (pc' := 43) (ls' := [(0, xr 143), (1, xi (↑n)), (2, xi s), (3, xi w)]) (st' := [xi (-14)]) rfl ?_
                            refine ex_reti rfl rfl ?_
                            exact ⟨x_req (by first | rfl | omega), _, _, rfl, hR⟩
                      · exfalso; omega
                · exfalso; omega
            · refine ex_st 1 (pc' := 44) (ls' := [(0, xr 0), (1, xi (↑n)), (2, xi s), (3, xi w)]) (st' := [xi (-2)]) rfl ?_
              refine ex_reti rfl rfl ?_
              refine x_CQ.of (M := xM_m_tape) rfl (Nat.le_of_ble_eq_true rfl) ?_
              refine ex_st 2 (pc' := 2) (ls' := [(0, xr 143), (1, xi (↑n)), (2, xi s), (3, xi w)]) (st' := [xi (↑n), xr 143]) rfl ?_
              refine ex_call (ct_m_isTape (by first | omega | (constructor <;> omega) | assumption)) (by decide) rfl ⟨rfl, rfl, rfl⟩ ⟨Nat.le_of_ble_eq_true rfl, rfl, rfl⟩ (Nat.le_of_ble_eq_true rfl) rfl ?_
              refine ex_bne rfl (fun h23 => ?_) (fun h23 => ?_)
              · refine ex_st 4 (pc' := 14) (ls' := [(0, xr 143), (1, xi (↑n)), (2, xi s), (3, xi w)]) (st' := [xi 4, xi (-1), xi s, xr 143]) rfl ?_
                refine ex_call (ct_m_in (by first | omega | (constructor <;> omega) | assumption) (by first | omega | (constructor <;> omega) | assumption) (by first | omega | (constructor <;> omega) | assumption)) (by decide) rfl ⟨rfl, rfl, rfl⟩ ⟨Nat.le_of_ble_eq_true rfl, rfl, rfl⟩ (Nat.le_of_ble_eq_true rfl) rfl ?_
                refine ex_beq rfl (fun h24 => ?_) (fun h24 => ?_)
                · exfalso; omega
                · refine ex_st 1 (pc' := 21) (ls' := [(0, xr 143), (1, xi (↑n)), (2, xi s), (3, xi w)]) (st' := [xi s]) rfl ?_
                  refine ex_if rfl (by first | omega | (constructor <;> omega) | assumption) (fun (h25 : s < 0) => ?_) (fun (h25 : ¬ s < 0) => ?_)
                  · exfalso; omega
                  · refine ex_st 2 (pc' := 27) (ls' := [(0, xr 143), (1, xi (↑n)), (2, xi s), (3, xi w)]) (st' := [xi 60, xi w]) rfl ?_
                    refine ex_ic rfl (by first | omega | (constructor <;> omega) | assumption) (by decide) (fun (h26 : w ≤ 60) => ?_) (fun (h26 : ¬ w ≤ 60) => ?_)
                    · exfalso; omega
                    · refine ex_st 1 (pc' := 32) (ls' := [(0, xr 143), (1, xi (↑n)), (2, xi s), (3, xi w)]) (st' := [xi (-2)]) rfl ?_
                      refine ex_reti rfl rfl ?_
                      exact ⟨x_req (by first | rfl | omega), _, _, rfl, hR⟩
              · exfalso; omega
      · refine ex_st 3 (pc' := 19) (ls' := [(0, xr 0), (1, xi (↑n)), (2, xi s), (3, xi w)]) (st' := [xi (↑n), xr 106]) rfl ?_
        refine ex_aald (q := 131 + 2 * n) (j := n) rfl (by decide) (rfl : xSH[106]? = some _) (by decide) (by omega) (by omega) (by decide) (x_aa106 n (by omega)) (by omega) ?_
        refine ex_st 2 (pc' := 22) (ls' := [(0, xr 0), (1, xi (↑n)), (2, xi s), (3, xi w)]) (st' := [xi 0, xi s, xr (131 + 2 * n)]) rfl ?_
        refine ex_inl (M' := xM_Tp_start) (as := [xr (131 + 2 * n), xi s, xi 0]) (rest := []) (D' := 28) rfl (Nat.le_of_ble_eq_true rfl) (by decide) rfl ⟨rfl, rfl, rfl⟩ ⟨Nat.le_of_ble_eq_true rfl, rfl, rfl⟩ (Nat.le_of_ble_eq_true rfl) (x_recv_v (by omega) (x_tsh n (by omega)).1 (by decide)) ?_
        refine ex_st 2 (pc' := 2) (ls' := [(0, xr (131 + 2 * n)), (1, xi s), (2, xi 0)]) (st' := [xi s, xr (131 + 2 * n)]) rfl ?_
        refine ex_pfi rfl (by omega) (x_tsh n (by omega)).1 (by decide) rfl (by decide) (fun h => by cases h) ?_
        refine ex_st 2 (pc' := 7) (ls' := [(0, xr (131 + 2 * n)), (1, xi s), (2, xi 0)]) (st' := [xi 0, xr (131 + 2 * n)]) rfl ?_
        refine ex_pfi rfl (by omega) (x_tsh n (by omega)).1 (by decide) rfl (by decide) (fun h => by cases h) ?_
        refine ex_st 2 (pc' := 12) (ls' := [(3, xi 0), (0, xr (131 + 2 * n)), (1, xi s), (2, xi 0)]) (st' := []) rfl ?_
        refine lp_tps (x_tsh n (by omega)).1 (x_tsh n (by omega)).2 (by omega) 0 (by decide) _ (fun L1 hL1 hL2 => ?_)
        refine ex_st 1 (pc' := 26) (ls' := [(0, xr 0), (1, xi (↑n)), (2, xi s), (3, xi w)]) (st' := [xi 1]) rfl ?_
        refine ex_reti rfl rfl ?_
        refine x_CQ.of (M := xM_m_tape) rfl (Nat.le_of_ble_eq_true rfl) ?_
        refine ex_st 2 (pc' := 2) (ls' := [(0, xr 143), (1, xi (↑n)), (2, xi s), (3, xi w)]) (st' := [xi (↑n), xr 143]) rfl ?_
        refine ex_call (ct_m_isTape (by first | omega | (constructor <;> omega) | assumption)) (by decide) rfl ⟨rfl, rfl, rfl⟩ ⟨Nat.le_of_ble_eq_true rfl, rfl, rfl⟩ (Nat.le_of_ble_eq_true rfl) rfl ?_
        refine ex_bne rfl (fun h27 => ?_) (fun h27 => ?_)
        · refine ex_st 4 (pc' := 14) (ls' := [(0, xr 143), (1, xi (↑n)), (2, xi s), (3, xi w)]) (st' := [xi 4, xi (-1), xi s, xr 143]) rfl ?_
          refine ex_call (ct_m_in (by first | omega | (constructor <;> omega) | assumption) (by first | omega | (constructor <;> omega) | assumption) (by first | omega | (constructor <;> omega) | assumption)) (by decide) rfl ⟨rfl, rfl, rfl⟩ ⟨Nat.le_of_ble_eq_true rfl, rfl, rfl⟩ (Nat.le_of_ble_eq_true rfl) rfl ?_
          refine ex_beq rfl (fun h28 => ?_) (fun h28 => ?_)
          · exfalso; omega
          · refine ex_st 1 (pc' := 21) (ls' := [(0, xr 143), (1, xi (↑n)), (2, xi s), (3, xi w)]) (st' := [xi s]) rfl ?_
            refine ex_if rfl (by first | omega | (constructor <;> omega) | assumption) (fun (h29 : s < 0) => ?_) (fun (h29 : ¬ s < 0) => ?_)
            · refine ex_st 1 (pc' := 34) (ls' := [(0, xr 143), (1, xi (↑n)), (2, xi s), (3, xi w)]) (st' := [xi s]) rfl ?_
              refine ex_if rfl (by first | omega | (constructor <;> omega) | assumption) (fun (h30 : s < 0) => ?_) (fun (h30 : ¬ s < 0) => ?_)
              · refine ex_st 4 (pc' := 50) (ls' := [(0, xr 143), (1, xi (↑n)), (2, xi s), (3, xi w)]) (st' := [xi s, xi (↑n), xr 191]) rfl ?_
                refine ex_iast (j := n) rfl (by decide) (rfl : xSH[191]? = some _) (by omega) (by omega) (by decide) ?_
                refine ex_st 4 (pc' := 57) (ls' := [(0, xr 143), (1, xi (↑n)), (2, xi s), (3, xi w)]) (st' := [xi s, xi (↑n), xr 192]) rfl ?_
                refine ex_if rfl (by first | omega | (constructor <;> omega) | assumption) (fun (h31 : ((0 : Int)) ≤ s) => ?_) (fun (h31 : ¬ ((0 : Int)) ≤ s) => ?_)
                · exfalso; omega
                · refine ex_st 2 (pc' := 65) (ls' := [(0, xr 143), (1, xi (↑n)), (2, xi s), (3, xi w)]) (st' := [xi 0, xi (↑n), xr 192]) rfl ?_
                  refine ex_iast (j := n) rfl (by decide) (rfl : xSH[192]? = some _) (by omega) (by omega) (by decide) ?_
                  refine ex_st 2 (pc' := 69) (ls' := [(4, xi 0), (0, xr 143), (1, xi (↑n)), (2, xi s), (3, xi w)]) (st' := []) rfl ?_
                  refine lp_mtp (by omega) 0 (by decide) _ (fun L2 hM1 hM2 => ?_)
                  refine ⟨x_req (by first | rfl | omega), ?_⟩
                  refine ⟨_, _, rfl, ?_⟩
                  generalize hM : (x_up (x_up (x_up (x_up I (131 + 2 * n) 0 s) (131 + 2 * n) 1 0) 191 n s) 192 n 0) = I2
                  have hF : ∀ k j, ¬ ((k = 192 ∧ j = n) ∨ (k = 191 ∧ j = n) ∨ (k = 131 + 2 * n ∧ j = 1) ∨ (k = 131 + 2 * n ∧ j = 0)) → I2 k j = I k j := by intro k j hk; rw [← hM]; (repeat rw [x_up_far (by omega)])
                  have hw0 : I2 192 n = 0 := by rw [← hM]; (repeat (first | rw [x_up_far (by omega)] | rw [x_up_at2 (by omega) (by omega)]))
                  have hw1 : I2 191 n = s := by rw [← hM]; (repeat (first | rw [x_up_far (by omega)] | rw [x_up_at2 (by omega) (by omega)]))
                  have hw2 : I2 (131 + 2 * n) 1 = 0 := by rw [← hM]; (repeat (first | rw [x_up_far (by omega)] | rw [x_up_at2 (by omega) (by omega)]))
                  have hw3 : I2 (131 + 2 * n) 0 = s := by rw [← hM]; (repeat (first | rw [x_up_far (by omega)] | rw [x_up_at2 (by omega) (by omega)]))
                  clear hM
                  have hI2 : RIw I2 := by
                    obtain ⟨gs, go, ga, gb, gr, gd, gg, ge, gp, gk⟩ := id hI
                    exact ⟨gs.fr ⟨by (repeat rw [hF _ _ (by omega)]); try rfl, by (repeat rw [hF _ _ (by omega)]); try rfl, by (repeat rw [hF _ _ (by omega)]); try rfl, by (repeat rw [hF _ _ (by omega)]); try rfl, by (repeat rw [hF _ _ (by omega)]); try rfl, by (repeat rw [hF _ _ (by omega)]); try rfl, by (repeat rw [hF _ _ (by omega)]); try rfl, by (repeat rw [hF _ _ (by omega)]); try rfl, by (repeat rw [hF _ _ (by omega)]); try rfl⟩, go.fr (by intros; (repeat rw [hF _ _ (by omega)]); try rfl) (by intros; (repeat rw [hF _ _ (by omega)]); try rfl), ga.fr (by intros; (repeat rw [hF _ _ (by omega)]); try rfl) (by (repeat rw [hF _ _ (by omega)]); try rfl), gb.fr (by intros; (repeat rw [hF _ _ (by omega)]); try rfl) (by intros; (repeat rw [hF _ _ (by omega)]); try rfl), gr.fr (by intros; (repeat rw [hF _ _ (by omega)]); try rfl) (by intros; (repeat rw [hF _ _ (by omega)]); try rfl), gd.fr (by intros; (repeat rw [hF _ _ (by omega)]); try rfl) (by intros; (repeat rw [hF _ _ (by omega)]); try rfl) (by (repeat rw [hF _ _ (by omega)]); try rfl), gg.fr ⟨by (repeat rw [hF _ _ (by omega)]); try rfl, by (repeat rw [hF _ _ (by omega)]); try rfl⟩ (by intros; (repeat rw [hF _ _ (by omega)]); try rfl) (by intros; (repeat rw [hF _ _ (by omega)]); try rfl), ge.fr ⟨by (repeat rw [hF _ _ (by omega)]); try rfl, by (repeat rw [hF _ _ (by omega)]); try rfl, by (repeat rw [hF _ _ (by omega)]); try rfl⟩ (by intros; (repeat rw [hF _ _ (by omega)]); try rfl) (by intros; (repeat rw [hF _ _ (by omega)]); try rfl), gp.fr ⟨by (repeat rw [hF _ _ (by omega)]); try rfl, by (repeat rw [hF _ _ (by omega)]); try rfl, by (repeat rw [hF _ _ (by omega)]); try rfl⟩ (by intros; (repeat rw [hF _ _ (by omega)]); try rfl) (by intros; (repeat rw [hF _ _ (by omega)]); try rfl), gk.fr ⟨by (repeat rw [hF _ _ (by omega)]); try rfl, by (repeat rw [hF _ _ (by omega)]); try rfl, by (repeat rw [hF _ _ (by omega)]); try rfl⟩ (by intros; (repeat rw [hF _ _ (by omega)]); try rfl) (by intros; (repeat rw [hF _ _ (by omega)]); try rfl)⟩
                  refine ⟨⟨hNs.fr ⟨by (repeat rw [hF _ _ (by omega)]); try rfl, by (repeat rw [hF _ _ (by omega)]); try rfl, by (repeat rw [hF _ _ (by omega)]); try rfl, by (repeat rw [hF _ _ (by omega)]); try rfl, by (repeat rw [hF _ _ (by omega)]); try rfl, by (repeat rw [hF _ _ (by omega)]); try rfl, by (repeat rw [hF _ _ (by omega)]); try rfl, by (repeat rw [hF _ _ (by omega)]); try rfl, by (repeat rw [hF _ _ (by omega)]); try rfl⟩, hNo.fr (by intros; (repeat rw [hF _ _ (by omega)]); try rfl) (by intros; (repeat rw [hF _ _ (by omega)]); try rfl), hNa.fr (by intros; (repeat rw [hF _ _ (by omega)]); try rfl) (by (repeat rw [hF _ _ (by omega)]); try rfl), hNb.fr (by intros; (repeat rw [hF _ _ (by omega)]); try rfl) (by intros; (repeat rw [hF _ _ (by omega)]); try rfl), hNr.fr (by intros; (repeat rw [hF _ _ (by omega)]); try rfl) (by intros; (repeat rw [hF _ _ (by omega)]); try rfl), hNd.fr (by intros; (repeat rw [hF _ _ (by omega)]); try rfl) (by intros; (repeat rw [hF _ _ (by omega)]); try rfl) (by (repeat rw [hF _ _ (by omega)]); try rfl), hNg.fr ⟨by (repeat rw [hF _ _ (by omega)]); try rfl, by (repeat rw [hF _ _ (by omega)]); try rfl⟩ (by intros; (repeat rw [hF _ _ (by omega)]); try rfl) (by intros; (repeat rw [hF _ _ (by omega)]); try rfl), hNe.fr ⟨by (repeat rw [hF _ _ (by omega)]); try rfl, by (repeat rw [hF _ _ (by omega)]); try rfl, by (repeat rw [hF _ _ (by omega)]); try rfl⟩ (by intros; (repeat rw [hF _ _ (by omega)]); try rfl) (by intros; (repeat rw [hF _ _ (by omega)]); try rfl), hNp.fr ⟨by (repeat rw [hF _ _ (by omega)]); try rfl, by (repeat rw [hF _ _ (by omega)]); try rfl, by (repeat rw [hF _ _ (by omega)]); try rfl⟩ (by intros; (repeat rw [hF _ _ (by omega)]); try rfl) (by intros; (repeat rw [hF _ _ (by omega)]); try rfl), hNk.fr ⟨by (repeat rw [hF _ _ (by omega)]); try rfl, by (repeat rw [hF _ _ (by omega)]); try rfl, by (repeat rw [hF _ _ (by omega)]); try rfl⟩ (by intros; (repeat rw [hF _ _ (by omega)]); try rfl) (by intros; (repeat rw [hF _ _ (by omega)]); try rfl)⟩, hI2, hT.fr ⟨by (repeat rw [hF _ _ (by omega)]); try rfl, by (repeat rw [hF _ _ (by omega)]); try rfl⟩ (by intros; (repeat rw [hF _ _ (by omega)]); try rfl) (by intros; (repeat rw [hF _ _ (by omega)]); try rfl) (by intros; (repeat rw [hF _ _ (by omega)]); try rfl), hX.fr ⟨by (repeat rw [hF _ _ (by omega)]); try rfl, by (repeat rw [hF _ _ (by omega)]); try rfl⟩ (by intros; (repeat rw [hF _ _ (by omega)]); try rfl), hC.fr ⟨by (repeat rw [hF _ _ (by omega)]); try rfl, by (repeat rw [hF _ _ (by omega)]); try rfl⟩ (by intros; (repeat rw [hF _ _ (by omega)]); try rfl), hH.fr ⟨by (repeat rw [hF _ _ (by omega)]); try rfl, by (repeat rw [hF _ _ (by omega)]); try rfl, by (repeat rw [hF _ _ (by omega)]); try rfl⟩ (by intros; (repeat rw [hF _ _ (by omega)]); try rfl) (by intros; (repeat rw [hF _ _ (by omega)]); try rfl), ?_⟩
                  · intro p hp
                    obtain ⟨z1, z2, z3, z4, z5, z6, z7, z8⟩ := hQ p hp
                    by_cases e : p = n
                    · subst e; (repeat (first | rw [hw0] | rw [hw1] | rw [hw2] | rw [hw3] | rw [hF _ _ (by omega)]))
                      refine ⟨by omega, by omega, by omega, by omega, by omega, by omega, by omega, fun j hj => ?_⟩
                      rw [hM1 j (by omega) hj, hM2 _ _ (by omega), hL1 j (by omega) hj]
                    · (repeat (first | rw [hw0] | rw [hw1] | rw [hw2] | rw [hw3] | rw [hF _ _ (by omega)]))
                      refine ⟨by omega, by omega, by omega, by omega, by omega, by omega, by omega, fun j hj => ?_⟩
                      rw [hM2 _ _ (by omega), hM2 _ _ (by omega), hL2 _ _ (by omega), hL2 _ _ (by omega)]; exact z8 j hj
              · exfalso; omega
            · exfalso; omega
        · exfalso; omega
    · exfalso; omega
  refine x_CQ.of (M := xM_G_tape) rfl (Nat.le_of_ble_eq_true rfl) ?_
  refine ex_st 1 (pc' := 1) (ls' := [(0, xr 0), (1, xi t), (2, xi s), (3, xi w)]) (st' := [xi t]) rfl ?_
  refine ex_call (ct_G_isTape (by first | omega | (constructor <;> omega) | assumption)) (by decide) rfl ⟨rfl, rfl, rfl⟩ ⟨Nat.le_of_ble_eq_true rfl, rfl, rfl⟩ (Nat.le_of_ble_eq_true rfl) rfl ?_
  refine ex_bne rfl (fun h0 => ?_) (fun h0 => ?_)
  · exfalso; omega
  · refine ex_st 1 (pc' := 8) (ls' := [(0, xr 0), (1, xi t), (2, xi s), (3, xi w)]) (st' := [xi (-1)]) rfl ?_
    refine ex_reti rfl rfl ?_
    refine x_CQ.of (M := xM_m_tape) rfl (Nat.le_of_ble_eq_true rfl) ?_
    refine ex_st 2 (pc' := 2) (ls' := [(0, xr 143), (1, xi t), (2, xi s), (3, xi w)]) (st' := [xi t, xr 143]) rfl ?_
    refine ex_call (ct_m_isTape (by first | omega | (constructor <;> omega) | assumption)) (by decide) rfl ⟨rfl, rfl, rfl⟩ ⟨Nat.le_of_ble_eq_true rfl, rfl, rfl⟩ (Nat.le_of_ble_eq_true rfl) rfl ?_
    refine ex_bne rfl (fun h1 => ?_) (fun h1 => ?_)
    · exfalso; omega
    · refine ex_st 1 (pc' := 9) (ls' := [(0, xr 143), (1, xi t), (2, xi s), (3, xi w)]) (st' := [xi (-1)]) rfl ?_
      refine ex_reti rfl rfl ?_
      exact ⟨x_req (by first | rfl | omega), _, _, rfl, hR⟩
theorem x_lcR (a b : Int64) : x_R (lg_cmp a b).toInt := by
  unfold lg_cmp
  repeat' split
  all_goals decide
theorem op_item {sc : List Int} {I : Nat → Nat → Int} {L : Nat → Nat → Int64} (hR : Rl I L) {t i : Int} {x : Int64} (ht : x_R t) (hi0 : x_R i) : x_PQ sc xN_G_item [xr 0, xi t, xi i, xl (x)] xN_m_item [xr 143, xi t, xi i, xl (x)] (xSH, I, L) := by
  obtain ⟨⟨hNs, hNo, hNa, hNb, hNr, hNd, hNg, hNe, hNp, hNk⟩, hI, hT, hX, hC, hH, hQ⟩ := id hR
  have hs := hNs
  unfold RNs at hs
  by_cases hv : 0 ≤ t ∧ t < 6
  · obtain ⟨n, rfl⟩ := Int.eq_ofNat_of_zero_le hv.1
    have hq := hQ n (by omega)
    by_cases hi : 0 ≤ i
    · obtain ⟨i, rfl⟩ := Int.eq_ofNat_of_zero_le hi
      refine x_CQ.of (M := xM_G_item) rfl (Nat.le_of_ble_eq_true rfl) ?_
      refine ex_st 1 (pc' := 1) (ls' := [(0, xr 0), (1, xi (↑n)), (2, xi (↑i)), (3, xl (x))]) (st' := [xi (↑n)]) rfl ?_
      refine ex_call (ct_G_isTape (by first | omega | (constructor <;> omega) | assumption)) (by decide) rfl ⟨rfl, rfl, rfl⟩ ⟨Nat.le_of_ble_eq_true rfl, rfl, rfl⟩ (Nat.le_of_ble_eq_true rfl) rfl ?_
      refine ex_bne rfl (fun h0 => ?_) (fun h0 => ?_)
      · refine ex_st 3 (pc' := 14) (ls' := [(0, xr 0), (1, xi (↑n)), (2, xi (↑i)), (3, xl (x))]) (st' := [xi (↑n), xr 106]) rfl ?_
        refine ex_aald (q := 131 + 2 * n) (j := n) rfl (by decide) (rfl : xSH[106]? = some _) (by decide) (by omega) (by omega) (by decide) (x_aa106 n (by omega)) (by omega) ?_
        refine ex_st 2 (pc' := 19) (ls' := [(5, xr (131 + 2 * n)), (0, xr 0), (1, xi (↑n)), (2, xi (↑i)), (3, xl (x))]) (st' := [xr (131 + 2 * n)]) rfl ?_
        refine ex_inl (M' := xM_Tp_holds) (as := [xr (131 + 2 * n)]) (rest := []) (D' := 28) rfl (Nat.le_of_ble_eq_true rfl) (by decide) rfl ⟨rfl, rfl, rfl⟩ ⟨Nat.le_of_ble_eq_true rfl, rfl, rfl⟩ (Nat.le_of_ble_eq_true rfl) (x_recv_v (by omega) (x_tsh n (by omega)).1 (by decide)) ?_
        refine ex_st 1 (pc' := 1) (ls' := [(0, xr (131 + 2 * n))]) (st' := [xr (131 + 2 * n)]) rfl ?_
        refine ex_gfi rfl (by omega) (x_tsh n (by omega)).1 (by decide) (by decide) rfl ?_
        refine ex_st 1 (pc' := 5) (ls' := [(0, xr (131 + 2 * n))]) (st' := [xi (-1), xi (I (131 + 2 * n) 0)]) rfl ?_
        refine ex_ic rfl (by first | omega | (constructor <;> omega) | assumption | exact x_lcR _ _) (by decide) (fun (h1 : (I (131 + 2 * n) 0) = (-1)) => ?_) (fun (h1 : ¬ (I (131 + 2 * n) 0) = (-1)) => ?_)
        · refine ex_st 1 (pc' := 13) (ls' := [(0, xr (131 + 2 * n))]) (st' := [xi 0]) rfl ?_
          refine ex_retz rfl (Or.inl rfl) rfl ?_
          refine ex_st 1 (pc' := 25) (ls' := [(5, xr (131 + 2 * n)), (0, xr 0), (1, xi (↑n)), (2, xi (↑i)), (3, xl (x))]) (st' := []) rfl ?_
          refine ex_st 1 (pc' := 27) (ls' := [(5, xr (131 + 2 * n)), (0, xr 0), (1, xi (↑n)), (2, xi (↑i)), (3, xl (x))]) (st' := [xi (-11)]) rfl ?_
          refine ex_reti rfl rfl ?_
          refine x_CQ.of (M := xM_m_item) rfl (Nat.le_of_ble_eq_true rfl) ?_
          refine ex_st 2 (pc' := 2) (ls' := [(0, xr 143), (1, xi (↑n)), (2, xi (↑i)), (3, xl (x))]) (st' := [xi (↑n), xr 143]) rfl ?_
          refine ex_call (ct_m_isTape (by first | omega | (constructor <;> omega) | assumption)) (by decide) rfl ⟨rfl, rfl, rfl⟩ ⟨Nat.le_of_ble_eq_true rfl, rfl, rfl⟩ (Nat.le_of_ble_eq_true rfl) rfl ?_
          refine ex_bne rfl (fun h2 => ?_) (fun h2 => ?_)
          · refine ex_st 3 (pc' := 15) (ls' := [(0, xr 143), (1, xi (↑n)), (2, xi (↑i)), (3, xl (x))]) (st' := [xi (↑n), xr 191]) rfl ?_
            refine ex_iald (j := n) rfl (by decide) (rfl : xSH[191]? = some _) (by omega) (by omega) (by decide) ?_
            refine ex_if rfl (by first | omega | (constructor <;> omega) | assumption | exact x_lcR _ _) (fun (h3 : ((0 : Int)) ≤ (I 191 n)) => ?_) (fun (h3 : ¬ ((0 : Int)) ≤ (I 191 n)) => ?_)
            · exfalso; omega
            · refine ex_st 1 (pc' := 21) (ls' := [(0, xr 143), (1, xi (↑n)), (2, xi (↑i)), (3, xl (x))]) (st' := [xi (-11)]) rfl ?_
              refine ex_reti rfl rfl ?_
              exact ⟨x_req (by first | rfl | omega), _, _, rfl, hR⟩
          · exfalso; omega
        · refine ex_st 2 (pc' := 13) (ls' := [(0, xr (131 + 2 * n))]) (st' := [xi 1]) rfl ?_
          refine ex_retz rfl (Or.inr rfl) rfl ?_
          refine ex_st 1 (pc' := 28) (ls' := [(5, xr (131 + 2 * n)), (0, xr 0), (1, xi (↑n)), (2, xi (↑i)), (3, xl (x))]) (st' := []) rfl ?_
          refine ex_st 2 (pc' := 31) (ls' := [(5, xr (131 + 2 * n)), (0, xr 0), (1, xi (↑n)), (2, xi (↑i)), (3, xl (x))]) (st' := [xi (↑i), xr (131 + 2 * n)]) rfl ?_
          refine ex_inl (M' := xM_Tp_hasPlace) (as := [xr (131 + 2 * n), xi (↑i)]) (rest := []) (D' := 28) rfl (Nat.le_of_ble_eq_true rfl) (by decide) rfl ⟨rfl, rfl, rfl⟩ ⟨Nat.le_of_ble_eq_true rfl, rfl, rfl⟩ (Nat.le_of_ble_eq_true rfl) (x_recv_v (by omega) (x_tsh n (by omega)).1 (by decide)) ?_
          refine ex_st 1 (pc' := 1) (ls' := [(0, xr (131 + 2 * n)), (1, xi (↑i))]) (st' := [xi (↑i)]) rfl ?_
          refine ex_if rfl (by first | omega | (constructor <;> omega) | assumption | exact x_lcR _ _) (fun (h4 : (↑i : Int) < 0) => ?_) (fun (h4 : ¬ (↑i : Int) < 0) => ?_)
          · exfalso; omega
          · refine ex_st 2 (pc' := 6) (ls' := [(0, xr (131 + 2 * n)), (1, xi (↑i))]) (st' := [xr (131 + 2 * n), xi (↑i)]) rfl ?_
            refine ex_gfi rfl (by omega) (x_tsh n (by omega)).1 (by decide) (by decide) rfl ?_
            refine ex_ic rfl (by first | omega | (constructor <;> omega) | assumption | exact x_lcR _ _) (by first | omega | (constructor <;> omega) | assumption | exact x_lcR _ _) (fun (h5 : (I (131 + 2 * n) 1) ≤ (↑i : Int)) => ?_) (fun (h5 : ¬ (I (131 + 2 * n) 1) ≤ (↑i : Int)) => ?_)
            · refine ex_st 1 (pc' := 17) (ls' := [(0, xr (131 + 2 * n)), (1, xi (↑i))]) (st' := [xi 0]) rfl ?_
              refine ex_retz rfl (Or.inl rfl) rfl ?_
              refine ex_st 1 (pc' := 37) (ls' := [(5, xr (131 + 2 * n)), (0, xr 0), (1, xi (↑n)), (2, xi (↑i)), (3, xl (x))]) (st' := []) rfl ?_
              refine ex_st 1 (pc' := 39) (ls' := [(5, xr (131 + 2 * n)), (0, xr 0), (1, xi (↑n)), (2, xi (↑i)), (3, xl (x))]) (st' := [xi (-13)]) rfl ?_
              refine ex_reti rfl rfl ?_
              refine x_CQ.of (M := xM_m_item) rfl (Nat.le_of_ble_eq_true rfl) ?_
              refine ex_st 2 (pc' := 2) (ls' := [(0, xr 143), (1, xi (↑n)), (2, xi (↑i)), (3, xl (x))]) (st' := [xi (↑n), xr 143]) rfl ?_
              refine ex_call (ct_m_isTape (by first | omega | (constructor <;> omega) | assumption)) (by decide) rfl ⟨rfl, rfl, rfl⟩ ⟨Nat.le_of_ble_eq_true rfl, rfl, rfl⟩ (Nat.le_of_ble_eq_true rfl) rfl ?_
              refine ex_bne rfl (fun h6 => ?_) (fun h6 => ?_)
              · refine ex_st 3 (pc' := 15) (ls' := [(0, xr 143), (1, xi (↑n)), (2, xi (↑i)), (3, xl (x))]) (st' := [xi (↑n), xr 191]) rfl ?_
                refine ex_iald (j := n) rfl (by decide) (rfl : xSH[191]? = some _) (by omega) (by omega) (by decide) ?_
                refine ex_if rfl (by first | omega | (constructor <;> omega) | assumption | exact x_lcR _ _) (fun (h7 : ((0 : Int)) ≤ (I 191 n)) => ?_) (fun (h7 : ¬ ((0 : Int)) ≤ (I 191 n)) => ?_)
                · refine ex_st 6 (pc' := 30) (ls' := [(0, xr 143), (1, xi (↑n)), (2, xi (↑i)), (3, xl (x))]) (st' := [xi (↑n), xr 192, xi 0, xi (↑i), xr 143]) rfl ?_
                  refine ex_iald (j := n) rfl (by decide) (rfl : xSH[192]? = some _) (by omega) (by omega) (by decide) ?_
                  refine ex_st 2 (pc' := 33) (ls' := [(0, xr 143), (1, xi (↑n)), (2, xi (↑i)), (3, xl (x))]) (st' := [xi ((I 192 n) - 1), xi 0, xi (↑i), xr 143]) rfl ?_
                  refine ex_call (ct_m_in (by first | omega | (constructor <;> omega) | assumption) (by first | omega | (constructor <;> omega) | assumption) (by first | omega | (constructor <;> omega) | assumption)) (by decide) rfl ⟨rfl, rfl, rfl⟩ ⟨Nat.le_of_ble_eq_true rfl, rfl, rfl⟩ (Nat.le_of_ble_eq_true rfl) rfl ?_
                  refine ex_bne rfl (fun h8 => ?_) (fun h8 => ?_)
                  · exfalso; omega
                  · refine ex_st 1 (pc' := 41) (ls' := [(0, xr 143), (1, xi (↑n)), (2, xi (↑i)), (3, xl (x))]) (st' := [xi (-13)]) rfl ?_
                    refine ex_reti rfl rfl ?_
                    exact ⟨x_req (by first | rfl | omega), _, _, rfl, hR⟩
                · exfalso; omega
              · exfalso; omega
            · refine ex_st 2 (pc' := 17) (ls' := [(0, xr (131 + 2 * n)), (1, xi (↑i))]) (st' := [xi 1]) rfl ?_
              refine ex_retz rfl (Or.inr rfl) rfl ?_
              refine ex_st 1 (pc' := 40) (ls' := [(5, xr (131 + 2 * n)), (0, xr 0), (1, xi (↑n)), (2, xi (↑i)), (3, xl (x))]) (st' := []) rfl ?_
              refine ex_st 1 (pc' := 42) (ls' := [(5, xr (131 + 2 * n)), (0, xr 0), (1, xi (↑n)), (2, xi (↑i)), (3, xl (x))]) (st' := [xr (131 + 2 * n)]) rfl ?_
              refine ex_gfr rfl (by omega) (x_tsh n (by omega)).1 (by decide) (by decide) rfl ?_
              refine ex_st 3 (pc' := 49) (ls' := [(5, xr (131 + 2 * n)), (0, xr 0), (1, xi (↑n)), (2, xi (↑i)), (3, xl (x))]) (st' := [xl (x), xr (131 + 2 * n), xi (↑i), xr (131 + 2 * n + 1)]) rfl ?_
              refine ex_inl (M' := xM_Tp_cut) (as := [xr (131 + 2 * n), xl (x)]) (rest := [xi (↑i), xr (131 + 2 * n + 1)]) (D' := 28) rfl (Nat.le_of_ble_eq_true rfl) (by decide) rfl ⟨rfl, rfl, rfl⟩ ⟨Nat.le_of_ble_eq_true rfl, rfl, rfl⟩ (Nat.le_of_ble_eq_true rfl) (x_recv_v (by omega) (x_tsh n (by omega)).1 (by decide)) ?_
              refine ex_st 1 (pc' := 1) (ls' := [(0, xr (131 + 2 * n)), (1, xl (x))]) (st' := [xr (131 + 2 * n)]) rfl ?_
              refine ex_gfi rfl (by omega) (x_tsh n (by omega)).1 (by decide) (by decide) rfl ?_
              by_cases h9 : (I (131 + 2 * n) 0 : Int) = 0
              · refine ex_top h9 ?_
                refine ex_st 1 (pc' := 40) (ls' := [(0, xr (131 + 2 * n)), (1, xl (x))]) (st' := []) rfl ?_
                refine ex_st 4 (pc' := 44) (ls' := [(0, xr (131 + 2 * n)), (1, xl (x))]) (st' := [xl (z_i2l (z_i2b (z_l2i x)))]) rfl ?_
                refine ex_retl rfl rfl ?_
                refine ex_last (j := i) rfl (by omega) (x_tsh n (by omega)).2 (by omega) (by omega) (by decide) ?_
                refine ex_st 1 (pc' := 54) (ls' := [(5, xr (131 + 2 * n)), (0, xr 0), (1, xi (↑n)), (2, xi (↑i)), (3, xl (x))]) (st' := [xi 1]) rfl ?_
                refine ex_reti rfl rfl ?_
                refine x_CQ.of (M := xM_m_item) rfl (Nat.le_of_ble_eq_true rfl) ?_
                refine ex_st 2 (pc' := 2) (ls' := [(0, xr 143), (1, xi (↑n)), (2, xi (↑i)), (3, xl (x))]) (st' := [xi (↑n), xr 143]) rfl ?_
                refine ex_call (ct_m_isTape (by first | omega | (constructor <;> omega) | assumption)) (by decide) rfl ⟨rfl, rfl, rfl⟩ ⟨Nat.le_of_ble_eq_true rfl, rfl, rfl⟩ (Nat.le_of_ble_eq_true rfl) rfl ?_
                refine ex_bne rfl (fun h10 => ?_) (fun h10 => ?_)
                · refine ex_st 3 (pc' := 15) (ls' := [(0, xr 143), (1, xi (↑n)), (2, xi (↑i)), (3, xl (x))]) (st' := [xi (↑n), xr 191]) rfl ?_
                  refine ex_iald (j := n) rfl (by decide) (rfl : xSH[191]? = some _) (by omega) (by omega) (by decide) ?_
                  refine ex_if rfl (by first | omega | (constructor <;> omega) | assumption | exact x_lcR _ _) (fun (h11 : ((0 : Int)) ≤ (I 191 n)) => ?_) (fun (h11 : ¬ ((0 : Int)) ≤ (I 191 n)) => ?_)
                  · refine ex_st 6 (pc' := 30) (ls' := [(0, xr 143), (1, xi (↑n)), (2, xi (↑i)), (3, xl (x))]) (st' := [xi (↑n), xr 192, xi 0, xi (↑i), xr 143]) rfl ?_
                    refine ex_iald (j := n) rfl (by decide) (rfl : xSH[192]? = some _) (by omega) (by omega) (by decide) ?_
                    refine ex_st 2 (pc' := 33) (ls' := [(0, xr 143), (1, xi (↑n)), (2, xi (↑i)), (3, xl (x))]) (st' := [xi ((I 192 n) - 1), xi 0, xi (↑i), xr 143]) rfl ?_
                    refine ex_call (ct_m_in (by first | omega | (constructor <;> omega) | assumption) (by first | omega | (constructor <;> omega) | assumption) (by first | omega | (constructor <;> omega) | assumption)) (by decide) rfl ⟨rfl, rfl, rfl⟩ ⟨Nat.le_of_ble_eq_true rfl, rfl, rfl⟩ (Nat.le_of_ble_eq_true rfl) rfl ?_
                    refine ex_bne rfl (fun h12 => ?_) (fun h12 => ?_)
                    · refine ex_st 11 (pc' := 58) (ls' := [(0, xr 143), (1, xi (↑n)), (2, xi (↑i)), (3, xl (x))]) (st' := [xi (↑n), xr 191, xr 143, xi ((60 * (↑n)) + (↑i)), xr 193]) rfl ?_
                      refine ex_iald (j := n) rfl (by decide) (rfl : xSH[191]? = some _) (by omega) (by omega) (by decide) ?_
                      refine ex_st 1 (pc' := 60) (ls' := [(0, xr 143), (1, xi (↑n)), (2, xi (↑i)), (3, xl (x))]) (st' := [xl (x), xi (I 191 n), xr 143, xi ((60 * (↑n)) + (↑i)), xr 193]) rfl ?_
                      refine ex_inl (M' := xM_m_narrow) (as := [xr 143, xi (I 191 n), xl (x)]) (rest := [xi ((60 * (↑n)) + (↑i)), xr 193]) (D' := 28) rfl (Nat.le_of_ble_eq_true rfl) (by decide) rfl ⟨rfl, rfl, rfl⟩ ⟨Nat.le_of_ble_eq_true rfl, rfl, rfl⟩ (Nat.le_of_ble_eq_true rfl) rfl ?_
                      refine ex_st 1 (pc' := 1) (ls' := [(0, xr 143), (1, xi (I 191 n)), (2, xl (x))]) (st' := [xi (I 191 n)]) rfl ?_
                      refine ex_if rfl (by first | omega | (constructor <;> omega) | assumption | exact x_lcR _ _) (fun (h13 : ¬ (I 191 n) = 0) => ?_) (fun (h13 : ¬ ¬ (I 191 n) = 0) => ?_)
                      · exfalso; omega
                      · refine ex_st 5 (pc' := 54) (ls' := [(0, xr 143), (1, xi (I 191 n)), (2, xl (x))]) (st' := [xl (z_i2l (z_i2b (z_l2i x)))]) rfl ?_
                        refine ex_retl rfl rfl ?_
                        refine ex_last (j := ((60 * (n)) + (i))) rfl (by decide) (rfl : xSH[193]? = some _) (by omega) (by omega) (by decide) ?_
                        refine ex_st 1 (pc' := 65) (ls' := [(0, xr 143), (1, xi (↑n)), (2, xi (↑i)), (3, xl (x))]) (st' := [xi 1]) rfl ?_
                        refine ex_reti rfl rfl ?_
                        refine ⟨x_req (by first | rfl | omega), _, _, rfl, hR.1, hR.2.1, hT, hX, hC, hH, ?_⟩
                        intro p hp
                        obtain ⟨z1, z2, z3, z4, z5, z6, z7, z8⟩ := hQ p hp
                        refine ⟨z1, z2, z3, z4, z5, z6, z7, fun j hj => ?_⟩
                        by_cases e : p = n ∧ j = i
                        · obtain ⟨rfl, rfl⟩ := e; rw [x_upL_far (by omega), x_upL_at, x_upL_at]; try (first | rfl | decide)
                        · rw [x_upL_far (by omega), x_upL_far (by omega), x_upL_far (by omega), x_upL_far (by omega)]; exact z8 j hj
                    · exfalso; omega
                  · exfalso; omega
                · exfalso; omega
              by_cases h14 : (I (131 + 2 * n) 0 : Int) = 1
              · refine ex_top h14 ?_
                refine ex_st 1 (pc' := 45) (ls' := [(0, xr (131 + 2 * n)), (1, xl (x))]) (st' := []) rfl ?_
                refine ex_st 4 (pc' := 49) (ls' := [(0, xr (131 + 2 * n)), (1, xl (x))]) (st' := [xl (z_i2l (z_i2s (z_l2i x)))]) rfl ?_
                refine ex_retl rfl rfl ?_
                refine ex_last (j := i) rfl (by omega) (x_tsh n (by omega)).2 (by omega) (by omega) (by decide) ?_
                refine ex_st 1 (pc' := 54) (ls' := [(5, xr (131 + 2 * n)), (0, xr 0), (1, xi (↑n)), (2, xi (↑i)), (3, xl (x))]) (st' := [xi 1]) rfl ?_
                refine ex_reti rfl rfl ?_
                refine x_CQ.of (M := xM_m_item) rfl (Nat.le_of_ble_eq_true rfl) ?_
                refine ex_st 2 (pc' := 2) (ls' := [(0, xr 143), (1, xi (↑n)), (2, xi (↑i)), (3, xl (x))]) (st' := [xi (↑n), xr 143]) rfl ?_
                refine ex_call (ct_m_isTape (by first | omega | (constructor <;> omega) | assumption)) (by decide) rfl ⟨rfl, rfl, rfl⟩ ⟨Nat.le_of_ble_eq_true rfl, rfl, rfl⟩ (Nat.le_of_ble_eq_true rfl) rfl ?_
                refine ex_bne rfl (fun h15 => ?_) (fun h15 => ?_)
                · refine ex_st 3 (pc' := 15) (ls' := [(0, xr 143), (1, xi (↑n)), (2, xi (↑i)), (3, xl (x))]) (st' := [xi (↑n), xr 191]) rfl ?_
                  refine ex_iald (j := n) rfl (by decide) (rfl : xSH[191]? = some _) (by omega) (by omega) (by decide) ?_
                  refine ex_if rfl (by first | omega | (constructor <;> omega) | assumption | exact x_lcR _ _) (fun (h16 : ((0 : Int)) ≤ (I 191 n)) => ?_) (fun (h16 : ¬ ((0 : Int)) ≤ (I 191 n)) => ?_)
                  · refine ex_st 6 (pc' := 30) (ls' := [(0, xr 143), (1, xi (↑n)), (2, xi (↑i)), (3, xl (x))]) (st' := [xi (↑n), xr 192, xi 0, xi (↑i), xr 143]) rfl ?_
                    refine ex_iald (j := n) rfl (by decide) (rfl : xSH[192]? = some _) (by omega) (by omega) (by decide) ?_
                    refine ex_st 2 (pc' := 33) (ls' := [(0, xr 143), (1, xi (↑n)), (2, xi (↑i)), (3, xl (x))]) (st' := [xi ((I 192 n) - 1), xi 0, xi (↑i), xr 143]) rfl ?_
                    refine ex_call (ct_m_in (by first | omega | (constructor <;> omega) | assumption) (by first | omega | (constructor <;> omega) | assumption) (by first | omega | (constructor <;> omega) | assumption)) (by decide) rfl ⟨rfl, rfl, rfl⟩ ⟨Nat.le_of_ble_eq_true rfl, rfl, rfl⟩ (Nat.le_of_ble_eq_true rfl) rfl ?_
                    refine ex_bne rfl (fun h17 => ?_) (fun h17 => ?_)
                    · refine ex_st 11 (pc' := 58) (ls' := [(0, xr 143), (1, xi (↑n)), (2, xi (↑i)), (3, xl (x))]) (st' := [xi (↑n), xr 191, xr 143, xi ((60 * (↑n)) + (↑i)), xr 193]) rfl ?_
                      refine ex_iald (j := n) rfl (by decide) (rfl : xSH[191]? = some _) (by omega) (by omega) (by decide) ?_
                      refine ex_st 1 (pc' := 60) (ls' := [(0, xr 143), (1, xi (↑n)), (2, xi (↑i)), (3, xl (x))]) (st' := [xl (x), xi (I 191 n), xr 143, xi ((60 * (↑n)) + (↑i)), xr 193]) rfl ?_
                      refine ex_inl (M' := xM_m_narrow) (as := [xr 143, xi (I 191 n), xl (x)]) (rest := [xi ((60 * (↑n)) + (↑i)), xr 193]) (D' := 28) rfl (Nat.le_of_ble_eq_true rfl) (by decide) rfl ⟨rfl, rfl, rfl⟩ ⟨Nat.le_of_ble_eq_true rfl, rfl, rfl⟩ (Nat.le_of_ble_eq_true rfl) rfl ?_
                      refine ex_st 1 (pc' := 1) (ls' := [(0, xr 143), (1, xi (I 191 n)), (2, xl (x))]) (st' := [xi (I 191 n)]) rfl ?_
                      refine ex_if rfl (by first | omega | (constructor <;> omega) | assumption | exact x_lcR _ _) (fun (h18 : ¬ (I 191 n) = 0) => ?_) (fun (h18 : ¬ ¬ (I 191 n) = 0) => ?_)
                      · refine ex_st 2 (pc' := 13) (ls' := [(0, xr 143), (1, xi (I 191 n)), (2, xl (x))]) (st' := [xi 1, xi (I 191 n)]) rfl ?_
                        refine ex_ic rfl (by first | omega | (constructor <;> omega) | assumption | exact x_lcR _ _) (by decide) (fun (h19 : ¬ (I 191 n) = 1) => ?_) (fun (h19 : ¬ ¬ (I 191 n) = 1) => ?_)
                        · exfalso; omega
                        · refine ex_st 5 (pc' := 54) (ls' := [(0, xr 143), (1, xi (I 191 n)), (2, xl (x))]) (st' := [xl (z_i2l (z_i2s (z_l2i x)))]) rfl ?_
                          refine ex_retl rfl rfl ?_
                          refine ex_last (j := ((60 * (n)) + (i))) rfl (by decide) (rfl : xSH[193]? = some _) (by omega) (by omega) (by decide) ?_
                          refine ex_st 1 (pc' := 65) (ls' := [(0, xr 143), (1, xi (↑n)), (2, xi (↑i)), (3, xl (x))]) (st' := [xi 1]) rfl ?_
                          refine ex_reti rfl rfl ?_
                          refine ⟨x_req (by first | rfl | omega), _, _, rfl, hR.1, hR.2.1, hT, hX, hC, hH, ?_⟩
                          intro p hp
                          obtain ⟨z1, z2, z3, z4, z5, z6, z7, z8⟩ := hQ p hp
                          refine ⟨z1, z2, z3, z4, z5, z6, z7, fun j hj => ?_⟩
                          by_cases e : p = n ∧ j = i
                          · obtain ⟨rfl, rfl⟩ := e; rw [x_upL_far (by omega), x_upL_at, x_upL_at]; try (first | rfl | decide)
                          · rw [x_upL_far (by omega), x_upL_far (by omega), x_upL_far (by omega), x_upL_far (by omega)]; exact z8 j hj
                      · exfalso; omega
                    · exfalso; omega
                  · exfalso; omega
                · exfalso; omega
              by_cases h20 : (I (131 + 2 * n) 0 : Int) = 2
              · refine ex_top h20 ?_
                refine ex_st 1 (pc' := 50) (ls' := [(0, xr (131 + 2 * n)), (1, xl (x))]) (st' := []) rfl ?_
                refine ex_st 3 (pc' := 53) (ls' := [(0, xr (131 + 2 * n)), (1, xl (x))]) (st' := [xl (z_i2l (z_l2i x))]) rfl ?_
                refine ex_retl rfl rfl ?_
                refine ex_last (j := i) rfl (by omega) (x_tsh n (by omega)).2 (by omega) (by omega) (by decide) ?_
                refine ex_st 1 (pc' := 54) (ls' := [(5, xr (131 + 2 * n)), (0, xr 0), (1, xi (↑n)), (2, xi (↑i)), (3, xl (x))]) (st' := [xi 1]) rfl ?_
                refine ex_reti rfl rfl ?_
                refine x_CQ.of (M := xM_m_item) rfl (Nat.le_of_ble_eq_true rfl) ?_
                refine ex_st 2 (pc' := 2) (ls' := [(0, xr 143), (1, xi (↑n)), (2, xi (↑i)), (3, xl (x))]) (st' := [xi (↑n), xr 143]) rfl ?_
                refine ex_call (ct_m_isTape (by first | omega | (constructor <;> omega) | assumption)) (by decide) rfl ⟨rfl, rfl, rfl⟩ ⟨Nat.le_of_ble_eq_true rfl, rfl, rfl⟩ (Nat.le_of_ble_eq_true rfl) rfl ?_
                refine ex_bne rfl (fun h21 => ?_) (fun h21 => ?_)
                · refine ex_st 3 (pc' := 15) (ls' := [(0, xr 143), (1, xi (↑n)), (2, xi (↑i)), (3, xl (x))]) (st' := [xi (↑n), xr 191]) rfl ?_
                  refine ex_iald (j := n) rfl (by decide) (rfl : xSH[191]? = some _) (by omega) (by omega) (by decide) ?_
                  refine ex_if rfl (by first | omega | (constructor <;> omega) | assumption | exact x_lcR _ _) (fun (h22 : ((0 : Int)) ≤ (I 191 n)) => ?_) (fun (h22 : ¬ ((0 : Int)) ≤ (I 191 n)) => ?_)
                  · refine ex_st 6 (pc' := 30) (ls' := [(0, xr 143), (1, xi (↑n)), (2, xi (↑i)), (3, xl (x))]) (st' := [xi (↑n), xr 192, xi 0, xi (↑i), xr 143]) rfl ?_
                    refine ex_iald (j := n) rfl (by decide) (rfl : xSH[192]? = some _) (by omega) (by omega) (by decide) ?_
                    refine ex_st 2 (pc' := 33) (ls' := [(0, xr 143), (1, xi (↑n)), (2, xi (↑i)), (3, xl (x))]) (st' := [xi ((I 192 n) - 1), xi 0, xi (↑i), xr 143]) rfl ?_
                    refine ex_call (ct_m_in (by first | omega | (constructor <;> omega) | assumption) (by first | omega | (constructor <;> omega) | assumption) (by first | omega | (constructor <;> omega) | assumption)) (by decide) rfl ⟨rfl, rfl, rfl⟩ ⟨Nat.le_of_ble_eq_true rfl, rfl, rfl⟩ (Nat.le_of_ble_eq_true rfl) rfl ?_
                    refine ex_bne rfl (fun h23 => ?_) (fun h23 => ?_)
                    · refine ex_st 11 (pc' := 58) (ls' := [(0, xr 143), (1, xi (↑n)), (2, xi (↑i)), (3, xl (x))]) (st' := [xi (↑n), xr 191, xr 143, xi ((60 * (↑n)) + (↑i)), xr 193]) rfl ?_
                      refine ex_iald (j := n) rfl (by decide) (rfl : xSH[191]? = some _) (by omega) (by omega) (by decide) ?_
                      refine ex_st 1 (pc' := 60) (ls' := [(0, xr 143), (1, xi (↑n)), (2, xi (↑i)), (3, xl (x))]) (st' := [xl (x), xi (I 191 n), xr 143, xi ((60 * (↑n)) + (↑i)), xr 193]) rfl ?_
                      refine ex_inl (M' := xM_m_narrow) (as := [xr 143, xi (I 191 n), xl (x)]) (rest := [xi ((60 * (↑n)) + (↑i)), xr 193]) (D' := 28) rfl (Nat.le_of_ble_eq_true rfl) (by decide) rfl ⟨rfl, rfl, rfl⟩ ⟨Nat.le_of_ble_eq_true rfl, rfl, rfl⟩ (Nat.le_of_ble_eq_true rfl) rfl ?_
                      refine ex_st 1 (pc' := 1) (ls' := [(0, xr 143), (1, xi (I 191 n)), (2, xl (x))]) (st' := [xi (I 191 n)]) rfl ?_
                      refine ex_if rfl (by first | omega | (constructor <;> omega) | assumption | exact x_lcR _ _) (fun (h24 : ¬ (I 191 n) = 0) => ?_) (fun (h24 : ¬ ¬ (I 191 n) = 0) => ?_)
                      · refine ex_st 2 (pc' := 13) (ls' := [(0, xr 143), (1, xi (I 191 n)), (2, xl (x))]) (st' := [xi 1, xi (I 191 n)]) rfl ?_
                        refine ex_ic rfl (by first | omega | (constructor <;> omega) | assumption | exact x_lcR _ _) (by decide) (fun (h25 : ¬ (I 191 n) = 1) => ?_) (fun (h25 : ¬ ¬ (I 191 n) = 1) => ?_)
                        · refine ex_st 2 (pc' := 25) (ls' := [(0, xr 143), (1, xi (I 191 n)), (2, xl (x))]) (st' := [xi 2, xi (I 191 n)]) rfl ?_
                          refine ex_ic rfl (by first | omega | (constructor <;> omega) | assumption | exact x_lcR _ _) (by decide) (fun (h26 : ¬ (I 191 n) = 2) => ?_) (fun (h26 : ¬ ¬ (I 191 n) = 2) => ?_)
                          · exfalso; omega
                          · refine ex_st 4 (pc' := 54) (ls' := [(0, xr 143), (1, xi (I 191 n)), (2, xl (x))]) (st' := [xl (z_i2l (z_l2i x))]) rfl ?_
                            refine ex_retl rfl rfl ?_
                            refine ex_last (j := ((60 * (n)) + (i))) rfl (by decide) (rfl : xSH[193]? = some _) (by omega) (by omega) (by decide) ?_
                            refine ex_st 1 (pc' := 65) (ls' := [(0, xr 143), (1, xi (↑n)), (2, xi (↑i)), (3, xl (x))]) (st' := [xi 1]) rfl ?_
                            refine ex_reti rfl rfl ?_
                            refine ⟨x_req (by first | rfl | omega), _, _, rfl, hR.1, hR.2.1, hT, hX, hC, hH, ?_⟩
                            intro p hp
                            obtain ⟨z1, z2, z3, z4, z5, z6, z7, z8⟩ := hQ p hp
                            refine ⟨z1, z2, z3, z4, z5, z6, z7, fun j hj => ?_⟩
                            by_cases e : p = n ∧ j = i
                            · obtain ⟨rfl, rfl⟩ := e; rw [x_upL_far (by omega), x_upL_at, x_upL_at]; try (first | rfl | decide)
                            · rw [x_upL_far (by omega), x_upL_far (by omega), x_upL_far (by omega), x_upL_far (by omega)]; exact z8 j hj
                        · exfalso; omega
                      · exfalso; omega
                    · exfalso; omega
                  · exfalso; omega
                · exfalso; omega
              by_cases h27 : (I (131 + 2 * n) 0 : Int) = 3
              · refine ex_top h27 ?_
                refine ex_st 1 (pc' := 66) (ls' := [(0, xr (131 + 2 * n)), (1, xl (x))]) (st' := []) rfl ?_
                refine ex_st 1 (pc' := 67) (ls' := [(0, xr (131 + 2 * n)), (1, xl (x))]) (st' := [xl (x)]) rfl ?_
                refine ex_retl rfl rfl ?_
                refine ex_last (j := i) rfl (by omega) (x_tsh n (by omega)).2 (by omega) (by omega) (by decide) ?_
                refine ex_st 1 (pc' := 54) (ls' := [(5, xr (131 + 2 * n)), (0, xr 0), (1, xi (↑n)), (2, xi (↑i)), (3, xl (x))]) (st' := [xi 1]) rfl ?_
                refine ex_reti rfl rfl ?_
                refine x_CQ.of (M := xM_m_item) rfl (Nat.le_of_ble_eq_true rfl) ?_
                refine ex_st 2 (pc' := 2) (ls' := [(0, xr 143), (1, xi (↑n)), (2, xi (↑i)), (3, xl (x))]) (st' := [xi (↑n), xr 143]) rfl ?_
                refine ex_call (ct_m_isTape (by first | omega | (constructor <;> omega) | assumption)) (by decide) rfl ⟨rfl, rfl, rfl⟩ ⟨Nat.le_of_ble_eq_true rfl, rfl, rfl⟩ (Nat.le_of_ble_eq_true rfl) rfl ?_
                refine ex_bne rfl (fun h28 => ?_) (fun h28 => ?_)
                · refine ex_st 3 (pc' := 15) (ls' := [(0, xr 143), (1, xi (↑n)), (2, xi (↑i)), (3, xl (x))]) (st' := [xi (↑n), xr 191]) rfl ?_
                  refine ex_iald (j := n) rfl (by decide) (rfl : xSH[191]? = some _) (by omega) (by omega) (by decide) ?_
                  refine ex_if rfl (by first | omega | (constructor <;> omega) | assumption | exact x_lcR _ _) (fun (h29 : ((0 : Int)) ≤ (I 191 n)) => ?_) (fun (h29 : ¬ ((0 : Int)) ≤ (I 191 n)) => ?_)
                  · refine ex_st 6 (pc' := 30) (ls' := [(0, xr 143), (1, xi (↑n)), (2, xi (↑i)), (3, xl (x))]) (st' := [xi (↑n), xr 192, xi 0, xi (↑i), xr 143]) rfl ?_
                    refine ex_iald (j := n) rfl (by decide) (rfl : xSH[192]? = some _) (by omega) (by omega) (by decide) ?_
                    refine ex_st 2 (pc' := 33) (ls' := [(0, xr 143), (1, xi (↑n)), (2, xi (↑i)), (3, xl (x))]) (st' := [xi ((I 192 n) - 1), xi 0, xi (↑i), xr 143]) rfl ?_
                    refine ex_call (ct_m_in (by first | omega | (constructor <;> omega) | assumption) (by first | omega | (constructor <;> omega) | assumption) (by first | omega | (constructor <;> omega) | assumption)) (by decide) rfl ⟨rfl, rfl, rfl⟩ ⟨Nat.le_of_ble_eq_true rfl, rfl, rfl⟩ (Nat.le_of_ble_eq_true rfl) rfl ?_
                    refine ex_bne rfl (fun h30 => ?_) (fun h30 => ?_)
                    · refine ex_st 11 (pc' := 58) (ls' := [(0, xr 143), (1, xi (↑n)), (2, xi (↑i)), (3, xl (x))]) (st' := [xi (↑n), xr 191, xr 143, xi ((60 * (↑n)) + (↑i)), xr 193]) rfl ?_
                      refine ex_iald (j := n) rfl (by decide) (rfl : xSH[191]? = some _) (by omega) (by omega) (by decide) ?_
                      refine ex_st 1 (pc' := 60) (ls' := [(0, xr 143), (1, xi (↑n)), (2, xi (↑i)), (3, xl (x))]) (st' := [xl (x), xi (I 191 n), xr 143, xi ((60 * (↑n)) + (↑i)), xr 193]) rfl ?_
                      refine ex_inl (M' := xM_m_narrow) (as := [xr 143, xi (I 191 n), xl (x)]) (rest := [xi ((60 * (↑n)) + (↑i)), xr 193]) (D' := 28) rfl (Nat.le_of_ble_eq_true rfl) (by decide) rfl ⟨rfl, rfl, rfl⟩ ⟨Nat.le_of_ble_eq_true rfl, rfl, rfl⟩ (Nat.le_of_ble_eq_true rfl) rfl ?_
                      refine ex_st 1 (pc' := 1) (ls' := [(0, xr 143), (1, xi (I 191 n)), (2, xl (x))]) (st' := [xi (I 191 n)]) rfl ?_
                      refine ex_if rfl (by first | omega | (constructor <;> omega) | assumption | exact x_lcR _ _) (fun (h31 : ¬ (I 191 n) = 0) => ?_) (fun (h31 : ¬ ¬ (I 191 n) = 0) => ?_)
                      · refine ex_st 2 (pc' := 13) (ls' := [(0, xr 143), (1, xi (I 191 n)), (2, xl (x))]) (st' := [xi 1, xi (I 191 n)]) rfl ?_
                        refine ex_ic rfl (by first | omega | (constructor <;> omega) | assumption | exact x_lcR _ _) (by decide) (fun (h32 : ¬ (I 191 n) = 1) => ?_) (fun (h32 : ¬ ¬ (I 191 n) = 1) => ?_)
                        · refine ex_st 2 (pc' := 25) (ls' := [(0, xr 143), (1, xi (I 191 n)), (2, xl (x))]) (st' := [xi 2, xi (I 191 n)]) rfl ?_
                          refine ex_ic rfl (by first | omega | (constructor <;> omega) | assumption | exact x_lcR _ _) (by decide) (fun (h33 : ¬ (I 191 n) = 2) => ?_) (fun (h33 : ¬ ¬ (I 191 n) = 2) => ?_)
                          · refine ex_st 2 (pc' := 36) (ls' := [(0, xr 143), (1, xi (I 191 n)), (2, xl (x))]) (st' := [xi 4, xi (I 191 n)]) rfl ?_
                            refine ex_ic rfl (by first | omega | (constructor <;> omega) | assumption | exact x_lcR _ _) (by decide) (fun (h34 : ¬ (I 191 n) = 4) => ?_) (fun (h34 : ¬ ¬ (I 191 n) = 4) => ?_)
                            · refine ex_st 1 (pc' := 54) (ls' := [(0, xr 143), (1, xi (I 191 n)), (2, xl (x))]) (st' := [xl (x)]) rfl ?_
                              refine ex_retl rfl rfl ?_
                              refine ex_last (j := ((60 * (n)) + (i))) rfl (by decide) (rfl : xSH[193]? = some _) (by omega) (by omega) (by decide) ?_
                              refine ex_st 1 (pc' := 65) (ls' := [(0, xr 143), (1, xi (↑n)), (2, xi (↑i)), (3, xl (x))]) (st' := [xi 1]) rfl ?_
                              refine ex_reti rfl rfl ?_
                              refine ⟨x_req (by first | rfl | omega), _, _, rfl, hR.1, hR.2.1, hT, hX, hC, hH, ?_⟩
                              intro p hp
                              obtain ⟨z1, z2, z3, z4, z5, z6, z7, z8⟩ := hQ p hp
                              refine ⟨z1, z2, z3, z4, z5, z6, z7, fun j hj => ?_⟩
                              by_cases e : p = n ∧ j = i
                              · obtain ⟨rfl, rfl⟩ := e; rw [x_upL_far (by omega), x_upL_at, x_upL_at]; try (first | rfl | decide)
                              · rw [x_upL_far (by omega), x_upL_far (by omega), x_upL_far (by omega), x_upL_far (by omega)]; exact z8 j hj
                            · exfalso; omega
                          · exfalso; omega
                        · exfalso; omega
                      · exfalso; omega
                    · exfalso; omega
                  · exfalso; omega
                · exfalso; omega
              by_cases h35 : (I (131 + 2 * n) 0 : Int) = 4
              · refine ex_top h35 ?_
                refine ex_st 1 (pc' := 54) (ls' := [(0, xr (131 + 2 * n)), (1, xl (x))]) (st' := []) rfl ?_
                refine ex_st 3 (pc' := 57) (ls' := [(0, xr (131 + 2 * n)), (1, xl (x))]) (st' := [xi ((lg_cmp x (Int64.ofInt 0)).toInt)]) rfl ?_
                refine ex_if rfl (by first | omega | (constructor <;> omega) | assumption | exact x_lcR _ _) (fun (h36 : ((lg_cmp x (Int64.ofInt 0)).toInt) = 0) => ?_) (fun (h36 : ¬ ((lg_cmp x (Int64.ofInt 0)).toInt) = 0) => ?_)
                · refine ex_st 1 (pc' := 65) (ls' := [(0, xr (131 + 2 * n)), (1, xl (x))]) (st' := [xl (Int64.ofInt 0)]) rfl ?_
                  refine ex_retl rfl rfl ?_
                  refine ex_last (j := i) rfl (by omega) (x_tsh n (by omega)).2 (by omega) (by omega) (by decide) ?_
                  refine ex_st 1 (pc' := 54) (ls' := [(5, xr (131 + 2 * n)), (0, xr 0), (1, xi (↑n)), (2, xi (↑i)), (3, xl (x))]) (st' := [xi 1]) rfl ?_
                  refine ex_reti rfl rfl ?_
                  refine x_CQ.of (M := xM_m_item) rfl (Nat.le_of_ble_eq_true rfl) ?_
                  refine ex_st 2 (pc' := 2) (ls' := [(0, xr 143), (1, xi (↑n)), (2, xi (↑i)), (3, xl (x))]) (st' := [xi (↑n), xr 143]) rfl ?_
                  refine ex_call (ct_m_isTape (by first | omega | (constructor <;> omega) | assumption)) (by decide) rfl ⟨rfl, rfl, rfl⟩ ⟨Nat.le_of_ble_eq_true rfl, rfl, rfl⟩ (Nat.le_of_ble_eq_true rfl) rfl ?_
                  refine ex_bne rfl (fun h37 => ?_) (fun h37 => ?_)
                  · refine ex_st 3 (pc' := 15) (ls' := [(0, xr 143), (1, xi (↑n)), (2, xi (↑i)), (3, xl (x))]) (st' := [xi (↑n), xr 191]) rfl ?_
                    refine ex_iald (j := n) rfl (by decide) (rfl : xSH[191]? = some _) (by omega) (by omega) (by decide) ?_
                    refine ex_if rfl (by first | omega | (constructor <;> omega) | assumption | exact x_lcR _ _) (fun (h38 : ((0 : Int)) ≤ (I 191 n)) => ?_) (fun (h38 : ¬ ((0 : Int)) ≤ (I 191 n)) => ?_)
                    · refine ex_st 6 (pc' := 30) (ls' := [(0, xr 143), (1, xi (↑n)), (2, xi (↑i)), (3, xl (x))]) (st' := [xi (↑n), xr 192, xi 0, xi (↑i), xr 143]) rfl ?_
                      refine ex_iald (j := n) rfl (by decide) (rfl : xSH[192]? = some _) (by omega) (by omega) (by decide) ?_
                      refine ex_st 2 (pc' := 33) (ls' := [(0, xr 143), (1, xi (↑n)), (2, xi (↑i)), (3, xl (x))]) (st' := [xi ((I 192 n) - 1), xi 0, xi (↑i), xr 143]) rfl ?_
                      refine ex_call (ct_m_in (by first | omega | (constructor <;> omega) | assumption) (by first | omega | (constructor <;> omega) | assumption) (by first | omega | (constructor <;> omega) | assumption)) (by decide) rfl ⟨rfl, rfl, rfl⟩ ⟨Nat.le_of_ble_eq_true rfl, rfl, rfl⟩ (Nat.le_of_ble_eq_true rfl) rfl ?_
                      refine ex_bne rfl (fun h39 => ?_) (fun h39 => ?_)
                      · refine ex_st 11 (pc' := 58) (ls' := [(0, xr 143), (1, xi (↑n)), (2, xi (↑i)), (3, xl (x))]) (st' := [xi (↑n), xr 191, xr 143, xi ((60 * (↑n)) + (↑i)), xr 193]) rfl ?_
                        refine ex_iald (j := n) rfl (by decide) (rfl : xSH[191]? = some _) (by omega) (by omega) (by decide) ?_
                        refine ex_st 1 (pc' := 60) (ls' := [(0, xr 143), (1, xi (↑n)), (2, xi (↑i)), (3, xl (x))]) (st' := [xl (x), xi (I 191 n), xr 143, xi ((60 * (↑n)) + (↑i)), xr 193]) rfl ?_
                        refine ex_inl (M' := xM_m_narrow) (as := [xr 143, xi (I 191 n), xl (x)]) (rest := [xi ((60 * (↑n)) + (↑i)), xr 193]) (D' := 28) rfl (Nat.le_of_ble_eq_true rfl) (by decide) rfl ⟨rfl, rfl, rfl⟩ ⟨Nat.le_of_ble_eq_true rfl, rfl, rfl⟩ (Nat.le_of_ble_eq_true rfl) rfl ?_
                        refine ex_st 1 (pc' := 1) (ls' := [(0, xr 143), (1, xi (I 191 n)), (2, xl (x))]) (st' := [xi (I 191 n)]) rfl ?_
                        refine ex_if rfl (by first | omega | (constructor <;> omega) | assumption | exact x_lcR _ _) (fun (h40 : ¬ (I 191 n) = 0) => ?_) (fun (h40 : ¬ ¬ (I 191 n) = 0) => ?_)
                        · refine ex_st 2 (pc' := 13) (ls' := [(0, xr 143), (1, xi (I 191 n)), (2, xl (x))]) (st' := [xi 1, xi (I 191 n)]) rfl ?_
                          refine ex_ic rfl (by first | omega | (constructor <;> omega) | assumption | exact x_lcR _ _) (by decide) (fun (h41 : ¬ (I 191 n) = 1) => ?_) (fun (h41 : ¬ ¬ (I 191 n) = 1) => ?_)
                          · refine ex_st 2 (pc' := 25) (ls' := [(0, xr 143), (1, xi (I 191 n)), (2, xl (x))]) (st' := [xi 2, xi (I 191 n)]) rfl ?_
                            refine ex_ic rfl (by first | omega | (constructor <;> omega) | assumption | exact x_lcR _ _) (by decide) (fun (h42 : ¬ (I 191 n) = 2) => ?_) (fun (h42 : ¬ ¬ (I 191 n) = 2) => ?_)
                            · refine ex_st 2 (pc' := 36) (ls' := [(0, xr 143), (1, xi (I 191 n)), (2, xl (x))]) (st' := [xi 4, xi (I 191 n)]) rfl ?_
                              refine ex_ic rfl (by first | omega | (constructor <;> omega) | assumption | exact x_lcR _ _) (by decide) (fun (h43 : ¬ (I 191 n) = 4) => ?_) (fun (h43 : ¬ ¬ (I 191 n) = 4) => ?_)
                              · exfalso; omega
                              · refine ex_st 3 (pc' := 42) (ls' := [(0, xr 143), (1, xi (I 191 n)), (2, xl (x))]) (st' := [xi ((lg_cmp x (Int64.ofInt 0)).toInt)]) rfl ?_
                                refine ex_if rfl (by first | omega | (constructor <;> omega) | assumption | exact x_lcR _ _) (fun (h44 : ((lg_cmp x (Int64.ofInt 0)).toInt) = 0) => ?_) (fun (h44 : ¬ ((lg_cmp x (Int64.ofInt 0)).toInt) = 0) => ?_)
                                · refine ex_st 2 (pc' := 54) (ls' := [(0, xr 143), (1, xi (I 191 n)), (2, xl (x))]) (st' := [xl (Int64.ofInt 0)]) rfl ?_
                                  refine ex_retl rfl rfl ?_
                                  refine ex_last (j := ((60 * (n)) + (i))) rfl (by decide) (rfl : xSH[193]? = some _) (by omega) (by omega) (by decide) ?_
                                  refine ex_st 1 (pc' := 65) (ls' := [(0, xr 143), (1, xi (↑n)), (2, xi (↑i)), (3, xl (x))]) (st' := [xi 1]) rfl ?_
                                  refine ex_reti rfl rfl ?_
                                  refine ⟨x_req (by first | rfl | omega), _, _, rfl, hR.1, hR.2.1, hT, hX, hC, hH, ?_⟩
                                  intro p hp
                                  obtain ⟨z1, z2, z3, z4, z5, z6, z7, z8⟩ := hQ p hp
                                  refine ⟨z1, z2, z3, z4, z5, z6, z7, fun j hj => ?_⟩
                                  by_cases e : p = n ∧ j = i
                                  · obtain ⟨rfl, rfl⟩ := e; rw [x_upL_far (by omega), x_upL_at, x_upL_at]; try (first | rfl | decide)
                                  · rw [x_upL_far (by omega), x_upL_far (by omega), x_upL_far (by omega), x_upL_far (by omega)]; exact z8 j hj
                                · exfalso; omega
                            · exfalso; omega
                          · exfalso; omega
                        · exfalso; omega
                      · exfalso; omega
                    · exfalso; omega
                  · exfalso; omega
                · refine ex_st 2 (pc' := 65) (ls' := [(0, xr (131 + 2 * n)), (1, xl (x))]) (st' := [xl (Int64.ofInt 1)]) rfl ?_
                  refine ex_retl rfl rfl ?_
                  refine ex_last (j := i) rfl (by omega) (x_tsh n (by omega)).2 (by omega) (by omega) (by decide) ?_
                  refine ex_st 1 (pc' := 54) (ls' := [(5, xr (131 + 2 * n)), (0, xr 0), (1, xi (↑n)), (2, xi (↑i)), (3, xl (x))]) (st' := [xi 1]) rfl ?_
                  refine ex_reti rfl rfl ?_
                  refine x_CQ.of (M := xM_m_item) rfl (Nat.le_of_ble_eq_true rfl) ?_
                  refine ex_st 2 (pc' := 2) (ls' := [(0, xr 143), (1, xi (↑n)), (2, xi (↑i)), (3, xl (x))]) (st' := [xi (↑n), xr 143]) rfl ?_
                  refine ex_call (ct_m_isTape (by first | omega | (constructor <;> omega) | assumption)) (by decide) rfl ⟨rfl, rfl, rfl⟩ ⟨Nat.le_of_ble_eq_true rfl, rfl, rfl⟩ (Nat.le_of_ble_eq_true rfl) rfl ?_
                  refine ex_bne rfl (fun h45 => ?_) (fun h45 => ?_)
                  · refine ex_st 3 (pc' := 15) (ls' := [(0, xr 143), (1, xi (↑n)), (2, xi (↑i)), (3, xl (x))]) (st' := [xi (↑n), xr 191]) rfl ?_
                    refine ex_iald (j := n) rfl (by decide) (rfl : xSH[191]? = some _) (by omega) (by omega) (by decide) ?_
                    refine ex_if rfl (by first | omega | (constructor <;> omega) | assumption | exact x_lcR _ _) (fun (h46 : ((0 : Int)) ≤ (I 191 n)) => ?_) (fun (h46 : ¬ ((0 : Int)) ≤ (I 191 n)) => ?_)
                    · refine ex_st 6 (pc' := 30) (ls' := [(0, xr 143), (1, xi (↑n)), (2, xi (↑i)), (3, xl (x))]) (st' := [xi (↑n), xr 192, xi 0, xi (↑i), xr 143]) rfl ?_
                      refine ex_iald (j := n) rfl (by decide) (rfl : xSH[192]? = some _) (by omega) (by omega) (by decide) ?_
                      refine ex_st 2 (pc' := 33) (ls' := [(0, xr 143), (1, xi (↑n)), (2, xi (↑i)), (3, xl (x))]) (st' := [xi ((I 192 n) - 1), xi 0, xi (↑i), xr 143]) rfl ?_
                      refine ex_call (ct_m_in (by first | omega | (constructor <;> omega) | assumption) (by first | omega | (constructor <;> omega) | assumption) (by first | omega | (constructor <;> omega) | assumption)) (by decide) rfl ⟨rfl, rfl, rfl⟩ ⟨Nat.le_of_ble_eq_true rfl, rfl, rfl⟩ (Nat.le_of_ble_eq_true rfl) rfl ?_
                      refine ex_bne rfl (fun h47 => ?_) (fun h47 => ?_)
                      · refine ex_st 11 (pc' := 58) (ls' := [(0, xr 143), (1, xi (↑n)), (2, xi (↑i)), (3, xl (x))]) (st' := [xi (↑n), xr 191, xr 143, xi ((60 * (↑n)) + (↑i)), xr 193]) rfl ?_
                        refine ex_iald (j := n) rfl (by decide) (rfl : xSH[191]? = some _) (by omega) (by omega) (by decide) ?_
                        refine ex_st 1 (pc' := 60) (ls' := [(0, xr 143), (1, xi (↑n)), (2, xi (↑i)), (3, xl (x))]) (st' := [xl (x), xi (I 191 n), xr 143, xi ((60 * (↑n)) + (↑i)), xr 193]) rfl ?_
                        refine ex_inl (M' := xM_m_narrow) (as := [xr 143, xi (I 191 n), xl (x)]) (rest := [xi ((60 * (↑n)) + (↑i)), xr 193]) (D' := 28) rfl (Nat.le_of_ble_eq_true rfl) (by decide) rfl ⟨rfl, rfl, rfl⟩ ⟨Nat.le_of_ble_eq_true rfl, rfl, rfl⟩ (Nat.le_of_ble_eq_true rfl) rfl ?_
                        refine ex_st 1 (pc' := 1) (ls' := [(0, xr 143), (1, xi (I 191 n)), (2, xl (x))]) (st' := [xi (I 191 n)]) rfl ?_
                        refine ex_if rfl (by first | omega | (constructor <;> omega) | assumption | exact x_lcR _ _) (fun (h48 : ¬ (I 191 n) = 0) => ?_) (fun (h48 : ¬ ¬ (I 191 n) = 0) => ?_)
                        · refine ex_st 2 (pc' := 13) (ls' := [(0, xr 143), (1, xi (I 191 n)), (2, xl (x))]) (st' := [xi 1, xi (I 191 n)]) rfl ?_
                          refine ex_ic rfl (by first | omega | (constructor <;> omega) | assumption | exact x_lcR _ _) (by decide) (fun (h49 : ¬ (I 191 n) = 1) => ?_) (fun (h49 : ¬ ¬ (I 191 n) = 1) => ?_)
                          · refine ex_st 2 (pc' := 25) (ls' := [(0, xr 143), (1, xi (I 191 n)), (2, xl (x))]) (st' := [xi 2, xi (I 191 n)]) rfl ?_
                            refine ex_ic rfl (by first | omega | (constructor <;> omega) | assumption | exact x_lcR _ _) (by decide) (fun (h50 : ¬ (I 191 n) = 2) => ?_) (fun (h50 : ¬ ¬ (I 191 n) = 2) => ?_)
                            · refine ex_st 2 (pc' := 36) (ls' := [(0, xr 143), (1, xi (I 191 n)), (2, xl (x))]) (st' := [xi 4, xi (I 191 n)]) rfl ?_
                              refine ex_ic rfl (by first | omega | (constructor <;> omega) | assumption | exact x_lcR _ _) (by decide) (fun (h51 : ¬ (I 191 n) = 4) => ?_) (fun (h51 : ¬ ¬ (I 191 n) = 4) => ?_)
                              · exfalso; omega
                              · refine ex_st 3 (pc' := 42) (ls' := [(0, xr 143), (1, xi (I 191 n)), (2, xl (x))]) (st' := [xi ((lg_cmp x (Int64.ofInt 0)).toInt)]) rfl ?_
                                refine ex_if rfl (by first | omega | (constructor <;> omega) | assumption | exact x_lcR _ _) (fun (h52 : ((lg_cmp x (Int64.ofInt 0)).toInt) = 0) => ?_) (fun (h52 : ¬ ((lg_cmp x (Int64.ofInt 0)).toInt) = 0) => ?_)
                                · exfalso; omega
                                · refine ex_st 2 (pc' := 54) (ls' := [(0, xr 143), (1, xi (I 191 n)), (2, xl (x))]) (st' := [xl (Int64.ofInt 1)]) rfl ?_
                                  refine ex_retl rfl rfl ?_
                                  refine ex_last (j := ((60 * (n)) + (i))) rfl (by decide) (rfl : xSH[193]? = some _) (by omega) (by omega) (by decide) ?_
                                  refine ex_st 1 (pc' := 65) (ls' := [(0, xr 143), (1, xi (↑n)), (2, xi (↑i)), (3, xl (x))]) (st' := [xi 1]) rfl ?_
                                  refine ex_reti rfl rfl ?_
                                  refine ⟨x_req (by first | rfl | omega), _, _, rfl, hR.1, hR.2.1, hT, hX, hC, hH, ?_⟩
                                  intro p hp
                                  obtain ⟨z1, z2, z3, z4, z5, z6, z7, z8⟩ := hQ p hp
                                  refine ⟨z1, z2, z3, z4, z5, z6, z7, fun j hj => ?_⟩
                                  by_cases e : p = n ∧ j = i
                                  · obtain ⟨rfl, rfl⟩ := e; rw [x_upL_far (by omega), x_upL_at, x_upL_at]; try (first | rfl | decide)
                                  · rw [x_upL_far (by omega), x_upL_far (by omega), x_upL_far (by omega), x_upL_far (by omega)]; exact z8 j hj
                            · exfalso; omega
                          · exfalso; omega
                        · exfalso; omega
                      · exfalso; omega
                    · exfalso; omega
                  · exfalso; omega
              exfalso; omega
      · exfalso; omega
    refine x_CQ.of (M := xM_G_item) rfl (Nat.le_of_ble_eq_true rfl) ?_
    refine ex_st 1 (pc' := 1) (ls' := [(0, xr 0), (1, xi (↑n)), (2, xi i), (3, xl (x))]) (st' := [xi (↑n)]) rfl ?_
    refine ex_call (ct_G_isTape (by first | omega | (constructor <;> omega) | assumption)) (by decide) rfl ⟨rfl, rfl, rfl⟩ ⟨Nat.le_of_ble_eq_true rfl, rfl, rfl⟩ (Nat.le_of_ble_eq_true rfl) rfl ?_
    refine ex_bne rfl (fun h0 => ?_) (fun h0 => ?_)
    · refine ex_st 3 (pc' := 14) (ls' := [(0, xr 0), (1, xi (↑n)), (2, xi i), (3, xl (x))]) (st' := [xi (↑n), xr 106]) rfl ?_
      refine ex_aald (q := 131 + 2 * n) (j := n) rfl (by decide) (rfl : xSH[106]? = some _) (by decide) (by omega) (by omega) (by decide) (x_aa106 n (by omega)) (by omega) ?_
      refine ex_st 2 (pc' := 19) (ls' := [(5, xr (131 + 2 * n)), (0, xr 0), (1, xi (↑n)), (2, xi i), (3, xl (x))]) (st' := [xr (131 + 2 * n)]) rfl ?_
      refine ex_inl (M' := xM_Tp_holds) (as := [xr (131 + 2 * n)]) (rest := []) (D' := 28) rfl (Nat.le_of_ble_eq_true rfl) (by decide) rfl ⟨rfl, rfl, rfl⟩ ⟨Nat.le_of_ble_eq_true rfl, rfl, rfl⟩ (Nat.le_of_ble_eq_true rfl) (x_recv_v (by omega) (x_tsh n (by omega)).1 (by decide)) ?_
      refine ex_st 1 (pc' := 1) (ls' := [(0, xr (131 + 2 * n))]) (st' := [xr (131 + 2 * n)]) rfl ?_
      refine ex_gfi rfl (by omega) (x_tsh n (by omega)).1 (by decide) (by decide) rfl ?_
      refine ex_st 1 (pc' := 5) (ls' := [(0, xr (131 + 2 * n))]) (st' := [xi (-1), xi (I (131 + 2 * n) 0)]) rfl ?_
      refine ex_ic rfl (by first | omega | (constructor <;> omega) | assumption) (by decide) (fun (h1 : (I (131 + 2 * n) 0) = (-1)) => ?_) (fun (h1 : ¬ (I (131 + 2 * n) 0) = (-1)) => ?_)
      · refine ex_st 1 (pc' := 13) (ls' := [(0, xr (131 + 2 * n))]) (st' := [xi 0]) rfl ?_
        refine ex_retz rfl (Or.inl rfl) rfl ?_
        refine ex_st 1 (pc' := 25) (ls' := [(5, xr (131 + 2 * n)), (0, xr 0), (1, xi (↑n)), (2, xi i), (3, xl (x))]) (st' := []) rfl ?_
        refine ex_st 1 (pc' := 27) (ls' := [(5, xr (131 + 2 * n)), (0, xr 0), (1, xi (↑n)), (2, xi i), (3, xl (x))]) (st' := [xi (-11)]) rfl ?_
        refine ex_reti rfl rfl ?_
        refine x_CQ.of (M := xM_m_item) rfl (Nat.le_of_ble_eq_true rfl) ?_
        refine ex_st 2 (pc' := 2) (ls' := [(0, xr 143), (1, xi (↑n)), (2, xi i), (3, xl (x))]) (st' := [xi (↑n), xr 143]) rfl ?_
        refine ex_call (ct_m_isTape (by first | omega | (constructor <;> omega) | assumption)) (by decide) rfl ⟨rfl, rfl, rfl⟩ ⟨Nat.le_of_ble_eq_true rfl, rfl, rfl⟩ (Nat.le_of_ble_eq_true rfl) rfl ?_
        refine ex_bne rfl (fun h2 => ?_) (fun h2 => ?_)
        · refine ex_st 3 (pc' := 15) (ls' := [(0, xr 143), (1, xi (↑n)), (2, xi i), (3, xl (x))]) (st' := [xi (↑n), xr 191]) rfl ?_
          refine ex_iald (j := n) rfl (by decide) (rfl : xSH[191]? = some _) (by omega) (by omega) (by decide) ?_
          refine ex_if rfl (by first | omega | (constructor <;> omega) | assumption) (fun (h3 : ((0 : Int)) ≤ (I 191 n)) => ?_) (fun (h3 : ¬ ((0 : Int)) ≤ (I 191 n)) => ?_)
          · exfalso; omega
          · refine ex_st 1 (pc' := 21) (ls' := [(0, xr 143), (1, xi (↑n)), (2, xi i), (3, xl (x))]) (st' := [xi (-11)]) rfl ?_
            refine ex_reti rfl rfl ?_
            exact ⟨x_req (by first | rfl | omega), _, _, rfl, hR⟩
        · exfalso; omega
      · refine ex_st 2 (pc' := 13) (ls' := [(0, xr (131 + 2 * n))]) (st' := [xi 1]) rfl ?_
        refine ex_retz rfl (Or.inr rfl) rfl ?_
        refine ex_st 1 (pc' := 28) (ls' := [(5, xr (131 + 2 * n)), (0, xr 0), (1, xi (↑n)), (2, xi i), (3, xl (x))]) (st' := []) rfl ?_
        refine ex_st 2 (pc' := 31) (ls' := [(5, xr (131 + 2 * n)), (0, xr 0), (1, xi (↑n)), (2, xi i), (3, xl (x))]) (st' := [xi i, xr (131 + 2 * n)]) rfl ?_
        refine ex_inl (M' := xM_Tp_hasPlace) (as := [xr (131 + 2 * n), xi i]) (rest := []) (D' := 28) rfl (Nat.le_of_ble_eq_true rfl) (by decide) rfl ⟨rfl, rfl, rfl⟩ ⟨Nat.le_of_ble_eq_true rfl, rfl, rfl⟩ (Nat.le_of_ble_eq_true rfl) (x_recv_v (by omega) (x_tsh n (by omega)).1 (by decide)) ?_
        refine ex_st 1 (pc' := 1) (ls' := [(0, xr (131 + 2 * n)), (1, xi i)]) (st' := [xi i]) rfl ?_
        refine ex_if rfl (by first | omega | (constructor <;> omega) | assumption) (fun (h4 : i < 0) => ?_) (fun (h4 : ¬ i < 0) => ?_)
        · refine ex_st 1 (pc' := 17) (ls' := [(0, xr (131 + 2 * n)), (1, xi i)]) (st' := [xi 0]) rfl ?_
          refine ex_retz rfl (Or.inl rfl) rfl ?_
          refine ex_st 1 (pc' := 37) (ls' := [(5, xr (131 + 2 * n)), (0, xr 0), (1, xi (↑n)), (2, xi i), (3, xl (x))]) (st' := []) rfl ?_
          refine ex_st 1 (pc' := 39) (ls' := [(5, xr (131 + 2 * n)), (0, xr 0), (1, xi (↑n)), (2, xi i), (3, xl (x))]) (st' := [xi (-13)]) rfl ?_
          refine ex_reti rfl rfl ?_
          refine x_CQ.of (M := xM_m_item) rfl (Nat.le_of_ble_eq_true rfl) ?_
          refine ex_st 2 (pc' := 2) (ls' := [(0, xr 143), (1, xi (↑n)), (2, xi i), (3, xl (x))]) (st' := [xi (↑n), xr 143]) rfl ?_
          refine ex_call (ct_m_isTape (by first | omega | (constructor <;> omega) | assumption)) (by decide) rfl ⟨rfl, rfl, rfl⟩ ⟨Nat.le_of_ble_eq_true rfl, rfl, rfl⟩ (Nat.le_of_ble_eq_true rfl) rfl ?_
          refine ex_bne rfl (fun h5 => ?_) (fun h5 => ?_)
          · refine ex_st 3 (pc' := 15) (ls' := [(0, xr 143), (1, xi (↑n)), (2, xi i), (3, xl (x))]) (st' := [xi (↑n), xr 191]) rfl ?_
            refine ex_iald (j := n) rfl (by decide) (rfl : xSH[191]? = some _) (by omega) (by omega) (by decide) ?_
            refine ex_if rfl (by first | omega | (constructor <;> omega) | assumption) (fun (h6 : ((0 : Int)) ≤ (I 191 n)) => ?_) (fun (h6 : ¬ ((0 : Int)) ≤ (I 191 n)) => ?_)
            · refine ex_st 6 (pc' := 30) (ls' := [(0, xr 143), (1, xi (↑n)), (2, xi i), (3, xl (x))]) (st' := [xi (↑n), xr 192, xi 0, xi i, xr 143]) rfl ?_
              refine ex_iald (j := n) rfl (by decide) (rfl : xSH[192]? = some _) (by omega) (by omega) (by decide) ?_
              refine ex_st 2 (pc' := 33) (ls' := [(0, xr 143), (1, xi (↑n)), (2, xi i), (3, xl (x))]) (st' := [xi ((I 192 n) - 1), xi 0, xi i, xr 143]) rfl ?_
              refine ex_call (ct_m_in (by first | omega | (constructor <;> omega) | assumption) (by first | omega | (constructor <;> omega) | assumption) (by first | omega | (constructor <;> omega) | assumption)) (by decide) rfl ⟨rfl, rfl, rfl⟩ ⟨Nat.le_of_ble_eq_true rfl, rfl, rfl⟩ (Nat.le_of_ble_eq_true rfl) rfl ?_
              refine ex_bne rfl (fun h7 => ?_) (fun h7 => ?_)
              · exfalso; omega
              · refine ex_st 1 (pc' := 41) (ls' := [(0, xr 143), (1, xi (↑n)), (2, xi i), (3, xl (x))]) (st' := [xi (-13)]) rfl ?_
                refine ex_reti rfl rfl ?_
                exact ⟨x_req (by first | rfl | omega), _, _, rfl, hR⟩
            · exfalso; omega
          · exfalso; omega
        · exfalso; omega
    · exfalso; omega
  refine x_CQ.of (M := xM_G_item) rfl (Nat.le_of_ble_eq_true rfl) ?_
  refine ex_st 1 (pc' := 1) (ls' := [(0, xr 0), (1, xi t), (2, xi i), (3, xl (x))]) (st' := [xi t]) rfl ?_
  refine ex_call (ct_G_isTape (by first | omega | (constructor <;> omega) | assumption)) (by decide) rfl ⟨rfl, rfl, rfl⟩ ⟨Nat.le_of_ble_eq_true rfl, rfl, rfl⟩ (Nat.le_of_ble_eq_true rfl) rfl ?_
  refine ex_bne rfl (fun h0 => ?_) (fun h0 => ?_)
  · exfalso; omega
  · refine ex_st 1 (pc' := 8) (ls' := [(0, xr 0), (1, xi t), (2, xi i), (3, xl (x))]) (st' := [xi (-1)]) rfl ?_
    refine ex_reti rfl rfl ?_
    refine x_CQ.of (M := xM_m_item) rfl (Nat.le_of_ble_eq_true rfl) ?_
    refine ex_st 2 (pc' := 2) (ls' := [(0, xr 143), (1, xi t), (2, xi i), (3, xl (x))]) (st' := [xi t, xr 143]) rfl ?_
    refine ex_call (ct_m_isTape (by first | omega | (constructor <;> omega) | assumption)) (by decide) rfl ⟨rfl, rfl, rfl⟩ ⟨Nat.le_of_ble_eq_true rfl, rfl, rfl⟩ (Nat.le_of_ble_eq_true rfl) rfl ?_
    refine ex_bne rfl (fun h1 => ?_) (fun h1 => ?_)
    · exfalso; omega
    · refine ex_st 1 (pc' := 9) (ls' := [(0, xr 143), (1, xi t), (2, xi i), (3, xl (x))]) (st' := [xi (-1)]) rfl ?_
      refine ex_reti rfl rfl ?_
      exact ⟨x_req (by first | rfl | omega), _, _, rfl, hR⟩
theorem op_read {sc : List Int} {I : Nat → Nat → Int} {L : Nat → Nat → Int64} (hR : Rl I L) {t i : Int} (ht : x_R t) (hi0 : x_R i) : x_PQ sc xN_G_read [xr 0, xi t, xi i] xN_m_read [xr 143, xi t, xi i] (xSH, I, L) := by
  obtain ⟨⟨hNs, hNo, hNa, hNb, hNr, hNd, hNg, hNe, hNp, hNk⟩, hI, hT, hX, hC, hH, hQ⟩ := id hR
  have hs := hNs
  unfold RNs at hs
  by_cases hv : 0 ≤ t ∧ t < 6
  · obtain ⟨n, rfl⟩ := Int.eq_ofNat_of_zero_le hv.1
    have hq := hQ n (by omega)
    by_cases hi : 0 ≤ i
    · obtain ⟨i, rfl⟩ := Int.eq_ofNat_of_zero_le hi
      refine x_CQ.of (M := xM_G_read) rfl (Nat.le_of_ble_eq_true rfl) ?_
      refine ex_st 1 (pc' := 1) (ls' := [(0, xr 0), (1, xi (↑n)), (2, xi (↑i))]) (st' := [xi (↑n)]) rfl ?_
      refine ex_call (ct_G_isTape (by first | omega | (constructor <;> omega) | assumption)) (by decide) rfl ⟨rfl, rfl, rfl⟩ ⟨Nat.le_of_ble_eq_true rfl, rfl, rfl⟩ (Nat.le_of_ble_eq_true rfl) rfl ?_
      refine ex_beq rfl (fun h0 => ?_) (fun h0 => ?_)
      · exfalso; omega
      · refine ex_st 3 (pc' := 12) (ls' := [(0, xr 0), (1, xi (↑n)), (2, xi (↑i))]) (st' := [xi (↑n), xr 106]) rfl ?_
        refine ex_aald (q := 131 + 2 * n) (j := n) rfl (by decide) (rfl : xSH[106]? = some _) (by decide) (by omega) (by omega) (by decide) (x_aa106 n (by omega)) (by omega) ?_
        refine ex_st 1 (pc' := 14) (ls' := [(0, xr 0), (1, xi (↑n)), (2, xi (↑i))]) (st' := [xi (↑i), xr (131 + 2 * n)]) rfl ?_
        refine ex_inl (M' := xM_Tp_hasPlace) (as := [xr (131 + 2 * n), xi (↑i)]) (rest := []) (D' := 28) rfl (Nat.le_of_ble_eq_true rfl) (by decide) rfl ⟨rfl, rfl, rfl⟩ ⟨Nat.le_of_ble_eq_true rfl, rfl, rfl⟩ (Nat.le_of_ble_eq_true rfl) (x_recv_v (by omega) (x_tsh n (by omega)).1 (by decide)) ?_
        refine ex_st 1 (pc' := 1) (ls' := [(0, xr (131 + 2 * n)), (1, xi (↑i))]) (st' := [xi (↑i)]) rfl ?_
        refine ex_if rfl (by first | omega | (constructor <;> omega) | assumption) (fun (h1 : (↑i : Int) < 0) => ?_) (fun (h1 : ¬ (↑i : Int) < 0) => ?_)
        · exfalso; omega
        · refine ex_st 2 (pc' := 6) (ls' := [(0, xr (131 + 2 * n)), (1, xi (↑i))]) (st' := [xr (131 + 2 * n), xi (↑i)]) rfl ?_
          refine ex_gfi rfl (by omega) (x_tsh n (by omega)).1 (by decide) (by decide) rfl ?_
          refine ex_ic rfl (by first | omega | (constructor <;> omega) | assumption) (by first | omega | (constructor <;> omega) | assumption) (fun (h2 : (I (131 + 2 * n) 1) ≤ (↑i : Int)) => ?_) (fun (h2 : ¬ (I (131 + 2 * n) 1) ≤ (↑i : Int)) => ?_)
          · refine ex_st 1 (pc' := 17) (ls' := [(0, xr (131 + 2 * n)), (1, xi (↑i))]) (st' := [xi 0]) rfl ?_
            refine ex_retz rfl (Or.inl rfl) rfl ?_
            refine ex_st 1 (pc' := 20) (ls' := [(0, xr 0), (1, xi (↑n)), (2, xi (↑i))]) (st' := []) rfl ?_
            refine ex_st 1 (pc' := 23) (ls' := [(0, xr 0), (1, xi (↑n)), (2, xi (↑i))]) (st' := [xl (Int64.ofInt (-9223372036854775808))]) rfl ?_
            refine ex_retl rfl rfl ?_
            refine x_CQ.of (M := xM_m_read) rfl (Nat.le_of_ble_eq_true rfl) ?_
            refine ex_st 2 (pc' := 2) (ls' := [(0, xr 143), (1, xi (↑n)), (2, xi (↑i))]) (st' := [xi (↑n), xr 143]) rfl ?_
            refine ex_call (ct_m_isTape (by first | omega | (constructor <;> omega) | assumption)) (by decide) rfl ⟨rfl, rfl, rfl⟩ ⟨Nat.le_of_ble_eq_true rfl, rfl, rfl⟩ (Nat.le_of_ble_eq_true rfl) rfl ?_
            refine ex_beq rfl (fun h3 => ?_) (fun h3 => ?_)
            · exfalso; omega
            · refine ex_st 3 (pc' := 13) (ls' := [(0, xr 143), (1, xi (↑n)), (2, xi (↑i))]) (st' := [xi (↑n), xr 191]) rfl ?_
              refine ex_iald (j := n) rfl (by decide) (rfl : xSH[191]? = some _) (by omega) (by omega) (by decide) ?_
              refine ex_if rfl (by first | omega | (constructor <;> omega) | assumption) (fun (h4 : (I 191 n) < 0) => ?_) (fun (h4 : ¬ (I 191 n) < 0) => ?_)
              · refine ex_st 2 (pc' := 51) (ls' := [(0, xr 143), (1, xi (↑n)), (2, xi (↑i))]) (st' := [xl (Int64.ofInt (-9223372036854775808))]) rfl ?_
                refine ex_retl rfl rfl ?_
                exact ⟨x_reql (by first | rfl | exact (hq.2.2.2.2.2.2.2 i (by omega)).symm), _, _, rfl, hR⟩
              · refine ex_st 6 (pc' := 25) (ls' := [(0, xr 143), (1, xi (↑n)), (2, xi (↑i))]) (st' := [xi (↑n), xr 192, xi 0, xi (↑i), xr 143]) rfl ?_
                refine ex_iald (j := n) rfl (by decide) (rfl : xSH[192]? = some _) (by omega) (by omega) (by decide) ?_
                refine ex_st 2 (pc' := 28) (ls' := [(0, xr 143), (1, xi (↑n)), (2, xi (↑i))]) (st' := [xi ((I 192 n) - 1), xi 0, xi (↑i), xr 143]) rfl ?_
                refine ex_call (ct_m_in (by first | omega | (constructor <;> omega) | assumption) (by first | omega | (constructor <;> omega) | assumption) (by first | omega | (constructor <;> omega) | assumption)) (by decide) rfl ⟨rfl, rfl, rfl⟩ ⟨Nat.le_of_ble_eq_true rfl, rfl, rfl⟩ (Nat.le_of_ble_eq_true rfl) rfl ?_
                refine ex_bne rfl (fun h5 => ?_) (fun h5 => ?_)
                · exfalso; omega
                · refine ex_st 2 (pc' := 51) (ls' := [(0, xr 143), (1, xi (↑n)), (2, xi (↑i))]) (st' := [xl (Int64.ofInt (-9223372036854775808))]) rfl ?_
                  refine ex_retl rfl rfl ?_
                  exact ⟨x_reql (by first | rfl | exact (hq.2.2.2.2.2.2.2 i (by omega)).symm), _, _, rfl, hR⟩
          · refine ex_st 2 (pc' := 17) (ls' := [(0, xr (131 + 2 * n)), (1, xi (↑i))]) (st' := [xi 1]) rfl ?_
            refine ex_retz rfl (Or.inr rfl) rfl ?_
            refine ex_st 1 (pc' := 24) (ls' := [(0, xr 0), (1, xi (↑n)), (2, xi (↑i))]) (st' := []) rfl ?_
            refine ex_st 3 (pc' := 29) (ls' := [(0, xr 0), (1, xi (↑n)), (2, xi (↑i))]) (st' := [xi (↑n), xr 106]) rfl ?_
            refine ex_aald (q := 131 + 2 * n) (j := n) rfl (by decide) (rfl : xSH[106]? = some _) (by decide) (by omega) (by omega) (by decide) (x_aa106 n (by omega)) (by omega) ?_
            refine ex_gfr rfl (by omega) (x_tsh n (by omega)).1 (by decide) (by decide) rfl ?_
            refine ex_st 1 (pc' := 34) (ls' := [(0, xr 0), (1, xi (↑n)), (2, xi (↑i))]) (st' := [xi (↑i), xr (131 + 2 * n + 1)]) rfl ?_
            refine ex_lald (j := i) rfl (by omega) (x_tsh n (by omega)).2 (by omega) (by omega) (by decide) ?_
            refine ex_retl rfl rfl ?_
            refine x_CQ.of (M := xM_m_read) rfl (Nat.le_of_ble_eq_true rfl) ?_
            refine ex_st 2 (pc' := 2) (ls' := [(0, xr 143), (1, xi (↑n)), (2, xi (↑i))]) (st' := [xi (↑n), xr 143]) rfl ?_
            refine ex_call (ct_m_isTape (by first | omega | (constructor <;> omega) | assumption)) (by decide) rfl ⟨rfl, rfl, rfl⟩ ⟨Nat.le_of_ble_eq_true rfl, rfl, rfl⟩ (Nat.le_of_ble_eq_true rfl) rfl ?_
            refine ex_beq rfl (fun h6 => ?_) (fun h6 => ?_)
            · exfalso; omega
            · refine ex_st 3 (pc' := 13) (ls' := [(0, xr 143), (1, xi (↑n)), (2, xi (↑i))]) (st' := [xi (↑n), xr 191]) rfl ?_
              refine ex_iald (j := n) rfl (by decide) (rfl : xSH[191]? = some _) (by omega) (by omega) (by decide) ?_
              refine ex_if rfl (by first | omega | (constructor <;> omega) | assumption) (fun (h7 : (I 191 n) < 0) => ?_) (fun (h7 : ¬ (I 191 n) < 0) => ?_)
              · exfalso; omega
              · refine ex_st 6 (pc' := 25) (ls' := [(0, xr 143), (1, xi (↑n)), (2, xi (↑i))]) (st' := [xi (↑n), xr 192, xi 0, xi (↑i), xr 143]) rfl ?_
                refine ex_iald (j := n) rfl (by decide) (rfl : xSH[192]? = some _) (by omega) (by omega) (by decide) ?_
                refine ex_st 2 (pc' := 28) (ls' := [(0, xr 143), (1, xi (↑n)), (2, xi (↑i))]) (st' := [xi ((I 192 n) - 1), xi 0, xi (↑i), xr 143]) rfl ?_
                refine ex_call (ct_m_in (by first | omega | (constructor <;> omega) | assumption) (by first | omega | (constructor <;> omega) | assumption) (by first | omega | (constructor <;> omega) | assumption)) (by decide) rfl ⟨rfl, rfl, rfl⟩ ⟨Nat.le_of_ble_eq_true rfl, rfl, rfl⟩ (Nat.le_of_ble_eq_true rfl) rfl ?_
                refine ex_bne rfl (fun h8 => ?_) (fun h8 => ?_)
                · refine ex_st 7 (pc' := 50) (ls' := [(0, xr 143), (1, xi (↑n)), (2, xi (↑i))]) (st' := [xi ((60 * (↑n)) + (↑i)), xr 193]) rfl ?_
                  refine ex_lald (j := ((60 * (n)) + (i))) rfl (by decide) (rfl : xSH[193]? = some _) (by omega) (by omega) (by decide) ?_
                  refine ex_retl rfl rfl ?_
                  exact ⟨x_reql (by first | rfl | exact (hq.2.2.2.2.2.2.2 i (by omega)).symm), _, _, rfl, hR⟩
                · exfalso; omega
    refine x_CQ.of (M := xM_G_read) rfl (Nat.le_of_ble_eq_true rfl) ?_
    refine ex_st 1 (pc' := 1) (ls' := [(0, xr 0), (1, xi (↑n)), (2, xi i)]) (st' := [xi (↑n)]) rfl ?_
    refine ex_call (ct_G_isTape (by first | omega | (constructor <;> omega) | assumption)) (by decide) rfl ⟨rfl, rfl, rfl⟩ ⟨Nat.le_of_ble_eq_true rfl, rfl, rfl⟩ (Nat.le_of_ble_eq_true rfl) rfl ?_
    refine ex_beq rfl (fun h0 => ?_) (fun h0 => ?_)
    · exfalso; omega
    · refine ex_st 3 (pc' := 12) (ls' := [(0, xr 0), (1, xi (↑n)), (2, xi i)]) (st' := [xi (↑n), xr 106]) rfl ?_
      refine ex_aald (q := 131 + 2 * n) (j := n) rfl (by decide) (rfl : xSH[106]? = some _) (by decide) (by omega) (by omega) (by decide) (x_aa106 n (by omega)) (by omega) ?_
      refine ex_st 1 (pc' := 14) (ls' := [(0, xr 0), (1, xi (↑n)), (2, xi i)]) (st' := [xi i, xr (131 + 2 * n)]) rfl ?_
      refine ex_inl (M' := xM_Tp_hasPlace) (as := [xr (131 + 2 * n), xi i]) (rest := []) (D' := 28) rfl (Nat.le_of_ble_eq_true rfl) (by decide) rfl ⟨rfl, rfl, rfl⟩ ⟨Nat.le_of_ble_eq_true rfl, rfl, rfl⟩ (Nat.le_of_ble_eq_true rfl) (x_recv_v (by omega) (x_tsh n (by omega)).1 (by decide)) ?_
      refine ex_st 1 (pc' := 1) (ls' := [(0, xr (131 + 2 * n)), (1, xi i)]) (st' := [xi i]) rfl ?_
      refine ex_if rfl (by first | omega | (constructor <;> omega) | assumption) (fun (h1 : i < 0) => ?_) (fun (h1 : ¬ i < 0) => ?_)
      · refine ex_st 1 (pc' := 17) (ls' := [(0, xr (131 + 2 * n)), (1, xi i)]) (st' := [xi 0]) rfl ?_
        refine ex_retz rfl (Or.inl rfl) rfl ?_
        refine ex_st 1 (pc' := 20) (ls' := [(0, xr 0), (1, xi (↑n)), (2, xi i)]) (st' := []) rfl ?_
        refine ex_st 1 (pc' := 23) (ls' := [(0, xr 0), (1, xi (↑n)), (2, xi i)]) (st' := [xl (Int64.ofInt (-9223372036854775808))]) rfl ?_
        refine ex_retl rfl rfl ?_
        refine x_CQ.of (M := xM_m_read) rfl (Nat.le_of_ble_eq_true rfl) ?_
        refine ex_st 2 (pc' := 2) (ls' := [(0, xr 143), (1, xi (↑n)), (2, xi i)]) (st' := [xi (↑n), xr 143]) rfl ?_
        refine ex_call (ct_m_isTape (by first | omega | (constructor <;> omega) | assumption)) (by decide) rfl ⟨rfl, rfl, rfl⟩ ⟨Nat.le_of_ble_eq_true rfl, rfl, rfl⟩ (Nat.le_of_ble_eq_true rfl) rfl ?_
        refine ex_beq rfl (fun h2 => ?_) (fun h2 => ?_)
        · exfalso; omega
        · refine ex_st 3 (pc' := 13) (ls' := [(0, xr 143), (1, xi (↑n)), (2, xi i)]) (st' := [xi (↑n), xr 191]) rfl ?_
          refine ex_iald (j := n) rfl (by decide) (rfl : xSH[191]? = some _) (by omega) (by omega) (by decide) ?_
          refine ex_if rfl (by first | omega | (constructor <;> omega) | assumption) (fun (h3 : (I 191 n) < 0) => ?_) (fun (h3 : ¬ (I 191 n) < 0) => ?_)
          · refine ex_st 2 (pc' := 51) (ls' := [(0, xr 143), (1, xi (↑n)), (2, xi i)]) (st' := [xl (Int64.ofInt (-9223372036854775808))]) rfl ?_
            refine ex_retl rfl rfl ?_
            exact ⟨x_reql (by first | rfl | exact (hq.2.2.2.2.2.2.2 i (by omega)).symm), _, _, rfl, hR⟩
          · refine ex_st 6 (pc' := 25) (ls' := [(0, xr 143), (1, xi (↑n)), (2, xi i)]) (st' := [xi (↑n), xr 192, xi 0, xi i, xr 143]) rfl ?_
            refine ex_iald (j := n) rfl (by decide) (rfl : xSH[192]? = some _) (by omega) (by omega) (by decide) ?_
            refine ex_st 2 (pc' := 28) (ls' := [(0, xr 143), (1, xi (↑n)), (2, xi i)]) (st' := [xi ((I 192 n) - 1), xi 0, xi i, xr 143]) rfl ?_
            refine ex_call (ct_m_in (by first | omega | (constructor <;> omega) | assumption) (by first | omega | (constructor <;> omega) | assumption) (by first | omega | (constructor <;> omega) | assumption)) (by decide) rfl ⟨rfl, rfl, rfl⟩ ⟨Nat.le_of_ble_eq_true rfl, rfl, rfl⟩ (Nat.le_of_ble_eq_true rfl) rfl ?_
            refine ex_bne rfl (fun h4 => ?_) (fun h4 => ?_)
            · exfalso; omega
            · refine ex_st 2 (pc' := 51) (ls' := [(0, xr 143), (1, xi (↑n)), (2, xi i)]) (st' := [xl (Int64.ofInt (-9223372036854775808))]) rfl ?_
              refine ex_retl rfl rfl ?_
              exact ⟨x_reql (by first | rfl | exact (hq.2.2.2.2.2.2.2 i (by omega)).symm), _, _, rfl, hR⟩
      · exfalso; omega
  refine x_CQ.of (M := xM_G_read) rfl (Nat.le_of_ble_eq_true rfl) ?_
  refine ex_st 1 (pc' := 1) (ls' := [(0, xr 0), (1, xi t), (2, xi i)]) (st' := [xi t]) rfl ?_
  refine ex_call (ct_G_isTape (by first | omega | (constructor <;> omega) | assumption)) (by decide) rfl ⟨rfl, rfl, rfl⟩ ⟨Nat.le_of_ble_eq_true rfl, rfl, rfl⟩ (Nat.le_of_ble_eq_true rfl) rfl ?_
  refine ex_beq rfl (fun h0 => ?_) (fun h0 => ?_)
  · refine ex_st 1 (pc' := 23) (ls' := [(0, xr 0), (1, xi t), (2, xi i)]) (st' := [xl (Int64.ofInt (-9223372036854775808))]) rfl ?_
    refine ex_retl rfl rfl ?_
    refine x_CQ.of (M := xM_m_read) rfl (Nat.le_of_ble_eq_true rfl) ?_
    refine ex_st 2 (pc' := 2) (ls' := [(0, xr 143), (1, xi t), (2, xi i)]) (st' := [xi t, xr 143]) rfl ?_
    refine ex_call (ct_m_isTape (by first | omega | (constructor <;> omega) | assumption)) (by decide) rfl ⟨rfl, rfl, rfl⟩ ⟨Nat.le_of_ble_eq_true rfl, rfl, rfl⟩ (Nat.le_of_ble_eq_true rfl) rfl ?_
    refine ex_beq rfl (fun h1 => ?_) (fun h1 => ?_)
    · refine ex_st 2 (pc' := 51) (ls' := [(0, xr 143), (1, xi t), (2, xi i)]) (st' := [xl (Int64.ofInt (-9223372036854775808))]) rfl ?_
      refine ex_retl rfl rfl ?_
      exact ⟨x_reql (by first | rfl | exact (hq.2.2.2.2.2.2.2 i (by omega)).symm), _, _, rfl, hR⟩
    · exfalso; omega
  · exfalso; omega
theorem op_shift {sc : List Int} {I : Nat → Nat → Int} {L : Nat → Nat → Int64} (hR : Rl I L) {t i o j m : Int} (ht : x_R t) (hi0 : x_R i) (ho0 : x_R o) (hj0 : x_R j) (hm0 : x_R m) : x_PQ sc xN_G_shift [xr 0, xi t, xi i, xi o, xi j, xi m] xN_m_shift [xr 143, xi t, xi i, xi o, xi j, xi m] (xSH, I, L) := by
  obtain ⟨⟨hNs, hNo, hNa, hNb, hNr, hNd, hNg, hNe, hNp, hNk⟩, hI, hT, hX, hC, hH, hQ⟩ := id hR
  have hs := hNs
  unfold RNs at hs
  by_cases hv : (0 ≤ t ∧ t < 6) ∧ (0 ≤ o ∧ o < 6)
  · obtain ⟨n, rfl⟩ := Int.eq_ofNat_of_zero_le hv.1.1
    obtain ⟨q, rfl⟩ := Int.eq_ofNat_of_zero_le hv.2.1
    have hq := hQ n (by omega)
    have hp := hQ q (by omega)
    by_cases hi : 0 ≤ i ∧ 0 ≤ j ∧ 0 ≤ m
    · obtain ⟨i, rfl⟩ := Int.eq_ofNat_of_zero_le hi.1
      obtain ⟨j, rfl⟩ := Int.eq_ofNat_of_zero_le hi.2.1
      obtain ⟨m, rfl⟩ := Int.eq_ofNat_of_zero_le hi.2.2
      refine x_CQ.of (M := xM_G_shift) rfl (Nat.le_of_ble_eq_true rfl) ?_
      refine ex_st 1 (pc' := 1) (ls' := [(0, xr 0), (1, xi (↑n)), (2, xi (↑i)), (3, xi (↑q)), (4, xi (↑j)), (5, xi (↑m))]) (st' := [xi (↑n)]) rfl ?_
      refine ex_call (ct_G_isTape (by first | omega | (constructor <;> omega) | assumption)) (by decide) rfl ⟨rfl, rfl, rfl⟩ ⟨Nat.le_of_ble_eq_true rfl, rfl, rfl⟩ (Nat.le_of_ble_eq_true rfl) rfl ?_
      refine ex_beq rfl (fun h0 => ?_) (fun h0 => ?_)
      · exfalso; omega
      · refine ex_st 1 (pc' := 8) (ls' := [(0, xr 0), (1, xi (↑n)), (2, xi (↑i)), (3, xi (↑q)), (4, xi (↑j)), (5, xi (↑m))]) (st' := [xi (↑q)]) rfl ?_
        refine ex_call (ct_G_isTape (by first | omega | (constructor <;> omega) | assumption)) (by decide) rfl ⟨rfl, rfl, rfl⟩ ⟨Nat.le_of_ble_eq_true rfl, rfl, rfl⟩ (Nat.le_of_ble_eq_true rfl) rfl ?_
        refine ex_bne rfl (fun h1 => ?_) (fun h1 => ?_)
        · refine ex_st 3 (pc' := 21) (ls' := [(0, xr 0), (1, xi (↑n)), (2, xi (↑i)), (3, xi (↑q)), (4, xi (↑j)), (5, xi (↑m))]) (st' := [xi (↑n), xr 106]) rfl ?_
          refine ex_aald (q := 131 + 2 * n) (j := n) rfl (by decide) (rfl : xSH[106]? = some _) (by decide) (by omega) (by omega) (by decide) (x_aa106 n (by omega)) (by omega) ?_
          refine ex_st 4 (pc' := 29) (ls' := [(6, xr (131 + 2 * n)), (0, xr 0), (1, xi (↑n)), (2, xi (↑i)), (3, xi (↑q)), (4, xi (↑j)), (5, xi (↑m))]) (st' := [xi (↑q), xr 106]) rfl ?_
          refine ex_aald (q := 131 + 2 * q) (j := q) rfl (by decide) (rfl : xSH[106]? = some _) (by decide) (by omega) (by omega) (by decide) (x_aa106 q (by omega)) (by omega) ?_
          refine ex_st 2 (pc' := 34) (ls' := [(7, xr (131 + 2 * q)), (6, xr (131 + 2 * n)), (0, xr 0), (1, xi (↑n)), (2, xi (↑i)), (3, xi (↑q)), (4, xi (↑j)), (5, xi (↑m))]) (st' := [xr (131 + 2 * n)]) rfl ?_
          refine ex_inl (M' := xM_Tp_holds) (as := [xr (131 + 2 * n)]) (rest := []) (D' := 28) rfl (Nat.le_of_ble_eq_true rfl) (by decide) rfl ⟨rfl, rfl, rfl⟩ ⟨Nat.le_of_ble_eq_true rfl, rfl, rfl⟩ (Nat.le_of_ble_eq_true rfl) (x_recv_v (by omega) (x_tsh n (by omega)).1 (by decide)) ?_
          refine ex_st 1 (pc' := 1) (ls' := [(0, xr (131 + 2 * n))]) (st' := [xr (131 + 2 * n)]) rfl ?_
          refine ex_gfi rfl (by omega) (x_tsh n (by omega)).1 (by decide) (by decide) rfl ?_
          refine ex_st 1 (pc' := 5) (ls' := [(0, xr (131 + 2 * n))]) (st' := [xi (-1), xi (I (131 + 2 * n) 0)]) rfl ?_
          refine ex_ic rfl (by first | omega | (constructor <;> omega) | assumption) (by decide) (fun (h2 : (I (131 + 2 * n) 0) = (-1)) => ?_) (fun (h2 : ¬ (I (131 + 2 * n) 0) = (-1)) => ?_)
          · refine ex_st 1 (pc' := 13) (ls' := [(0, xr (131 + 2 * n))]) (st' := [xi 0]) rfl ?_
            refine ex_retz rfl (Or.inl rfl) rfl ?_
            refine ex_st 1 (pc' := 48) (ls' := [(7, xr (131 + 2 * q)), (6, xr (131 + 2 * n)), (0, xr 0), (1, xi (↑n)), (2, xi (↑i)), (3, xi (↑q)), (4, xi (↑j)), (5, xi (↑m))]) (st' := []) rfl ?_
            refine ex_st 1 (pc' := 50) (ls' := [(7, xr (131 + 2 * q)), (6, xr (131 + 2 * n)), (0, xr 0), (1, xi (↑n)), (2, xi (↑i)), (3, xi (↑q)), (4, xi (↑j)), (5, xi (↑m))]) (st' := [xi (-11)]) rfl ?_
            refine ex_reti rfl rfl ?_
            refine x_CQ.of (M := xM_m_shift) rfl (Nat.le_of_ble_eq_true rfl) ?_
            refine ex_st 2 (pc' := 2) (ls' := [(0, xr 143), (1, xi (↑n)), (2, xi (↑i)), (3, xi (↑q)), (4, xi (↑j)), (5, xi (↑m))]) (st' := [xi (↑n), xr 143]) rfl ?_
            refine ex_call (ct_m_isTape (by first | omega | (constructor <;> omega) | assumption)) (by decide) rfl ⟨rfl, rfl, rfl⟩ ⟨Nat.le_of_ble_eq_true rfl, rfl, rfl⟩ (Nat.le_of_ble_eq_true rfl) rfl ?_
            refine ex_beq rfl (fun h3 => ?_) (fun h3 => ?_)
            · exfalso; omega
            · refine ex_st 2 (pc' := 10) (ls' := [(0, xr 143), (1, xi (↑n)), (2, xi (↑i)), (3, xi (↑q)), (4, xi (↑j)), (5, xi (↑m))]) (st' := [xi (↑q), xr 143]) rfl ?_
              refine ex_call (ct_m_isTape (by first | omega | (constructor <;> omega) | assumption)) (by decide) rfl ⟨rfl, rfl, rfl⟩ ⟨Nat.le_of_ble_eq_true rfl, rfl, rfl⟩ (Nat.le_of_ble_eq_true rfl) rfl ?_
              refine ex_bne rfl (fun h4 => ?_) (fun h4 => ?_)
              · refine ex_st 3 (pc' := 23) (ls' := [(0, xr 143), (1, xi (↑n)), (2, xi (↑i)), (3, xi (↑q)), (4, xi (↑j)), (5, xi (↑m))]) (st' := [xi (↑n), xr 191]) rfl ?_
                refine ex_iald (j := n) rfl (by decide) (rfl : xSH[191]? = some _) (by omega) (by omega) (by decide) ?_
                refine ex_if rfl (by first | omega | (constructor <;> omega) | assumption) (fun (h5 : (I 191 n) < 0) => ?_) (fun (h5 : ¬ (I 191 n) < 0) => ?_)
                · refine ex_st 1 (pc' := 38) (ls' := [(0, xr 143), (1, xi (↑n)), (2, xi (↑i)), (3, xi (↑q)), (4, xi (↑j)), (5, xi (↑m))]) (st' := [xi (-11)]) rfl ?_
                  refine ex_reti rfl rfl ?_
                  exact ⟨x_req (by first | rfl | omega), _, _, rfl, hR⟩
                · exfalso; omega
              · exfalso; omega
          · refine ex_st 2 (pc' := 13) (ls' := [(0, xr (131 + 2 * n))]) (st' := [xi 1]) rfl ?_
            refine ex_retz rfl (Or.inr rfl) rfl ?_
            refine ex_st 1 (pc' := 40) (ls' := [(7, xr (131 + 2 * q)), (6, xr (131 + 2 * n)), (0, xr 0), (1, xi (↑n)), (2, xi (↑i)), (3, xi (↑q)), (4, xi (↑j)), (5, xi (↑m))]) (st' := []) rfl ?_
            refine ex_st 1 (pc' := 42) (ls' := [(7, xr (131 + 2 * q)), (6, xr (131 + 2 * n)), (0, xr 0), (1, xi (↑n)), (2, xi (↑i)), (3, xi (↑q)), (4, xi (↑j)), (5, xi (↑m))]) (st' := [xr (131 + 2 * q)]) rfl ?_
            refine ex_inl (M' := xM_Tp_holds) (as := [xr (131 + 2 * q)]) (rest := []) (D' := 28) rfl (Nat.le_of_ble_eq_true rfl) (by decide) rfl ⟨rfl, rfl, rfl⟩ ⟨Nat.le_of_ble_eq_true rfl, rfl, rfl⟩ (Nat.le_of_ble_eq_true rfl) (x_recv_v (by omega) (x_tsh q (by omega)).1 (by decide)) ?_
            refine ex_st 1 (pc' := 1) (ls' := [(0, xr (131 + 2 * q))]) (st' := [xr (131 + 2 * q)]) rfl ?_
            refine ex_gfi rfl (by omega) (x_tsh q (by omega)).1 (by decide) (by decide) rfl ?_
            refine ex_st 1 (pc' := 5) (ls' := [(0, xr (131 + 2 * q))]) (st' := [xi (-1), xi (I (131 + 2 * q) 0)]) rfl ?_
            refine ex_ic rfl (by first | omega | (constructor <;> omega) | assumption) (by decide) (fun (h6 : (I (131 + 2 * q) 0) = (-1)) => ?_) (fun (h6 : ¬ (I (131 + 2 * q) 0) = (-1)) => ?_)
            · refine ex_st 1 (pc' := 13) (ls' := [(0, xr (131 + 2 * q))]) (st' := [xi 0]) rfl ?_
              refine ex_retz rfl (Or.inl rfl) rfl ?_
              refine ex_st 1 (pc' := 48) (ls' := [(7, xr (131 + 2 * q)), (6, xr (131 + 2 * n)), (0, xr 0), (1, xi (↑n)), (2, xi (↑i)), (3, xi (↑q)), (4, xi (↑j)), (5, xi (↑m))]) (st' := []) rfl ?_
              refine ex_st 1 (pc' := 50) (ls' := [(7, xr (131 + 2 * q)), (6, xr (131 + 2 * n)), (0, xr 0), (1, xi (↑n)), (2, xi (↑i)), (3, xi (↑q)), (4, xi (↑j)), (5, xi (↑m))]) (st' := [xi (-11)]) rfl ?_
              refine ex_reti rfl rfl ?_
              refine x_CQ.of (M := xM_m_shift) rfl (Nat.le_of_ble_eq_true rfl) ?_
              refine ex_st 2 (pc' := 2) (ls' := [(0, xr 143), (1, xi (↑n)), (2, xi (↑i)), (3, xi (↑q)), (4, xi (↑j)), (5, xi (↑m))]) (st' := [xi (↑n), xr 143]) rfl ?_
              refine ex_call (ct_m_isTape (by first | omega | (constructor <;> omega) | assumption)) (by decide) rfl ⟨rfl, rfl, rfl⟩ ⟨Nat.le_of_ble_eq_true rfl, rfl, rfl⟩ (Nat.le_of_ble_eq_true rfl) rfl ?_
              refine ex_beq rfl (fun h7 => ?_) (fun h7 => ?_)
              · exfalso; omega
              · refine ex_st 2 (pc' := 10) (ls' := [(0, xr 143), (1, xi (↑n)), (2, xi (↑i)), (3, xi (↑q)), (4, xi (↑j)), (5, xi (↑m))]) (st' := [xi (↑q), xr 143]) rfl ?_
                refine ex_call (ct_m_isTape (by first | omega | (constructor <;> omega) | assumption)) (by decide) rfl ⟨rfl, rfl, rfl⟩ ⟨Nat.le_of_ble_eq_true rfl, rfl, rfl⟩ (Nat.le_of_ble_eq_true rfl) rfl ?_
                refine ex_bne rfl (fun h8 => ?_) (fun h8 => ?_)
                · refine ex_st 3 (pc' := 23) (ls' := [(0, xr 143), (1, xi (↑n)), (2, xi (↑i)), (3, xi (↑q)), (4, xi (↑j)), (5, xi (↑m))]) (st' := [xi (↑n), xr 191]) rfl ?_
                  refine ex_iald (j := n) rfl (by decide) (rfl : xSH[191]? = some _) (by omega) (by omega) (by decide) ?_
                  refine ex_if rfl (by first | omega | (constructor <;> omega) | assumption) (fun (h9 : (I 191 n) < 0) => ?_) (fun (h9 : ¬ (I 191 n) < 0) => ?_)
                  · exfalso; omega
                  · refine ex_st 3 (pc' := 32) (ls' := [(0, xr 143), (1, xi (↑n)), (2, xi (↑i)), (3, xi (↑q)), (4, xi (↑j)), (5, xi (↑m))]) (st' := [xi (↑q), xr 191]) rfl ?_
                    refine ex_iald (j := q) rfl (by decide) (rfl : xSH[191]? = some _) (by omega) (by omega) (by decide) ?_
                    refine ex_if rfl (by first | omega | (constructor <;> omega) | assumption) (fun (h10 : ((0 : Int)) ≤ (I 191 q)) => ?_) (fun (h10 : ¬ ((0 : Int)) ≤ (I 191 q)) => ?_)
                    · exfalso; omega
                    · refine ex_st 1 (pc' := 38) (ls' := [(0, xr 143), (1, xi (↑n)), (2, xi (↑i)), (3, xi (↑q)), (4, xi (↑j)), (5, xi (↑m))]) (st' := [xi (-11)]) rfl ?_
                      refine ex_reti rfl rfl ?_
                      exact ⟨x_req (by first | rfl | omega), _, _, rfl, hR⟩
                · exfalso; omega
            · refine ex_st 2 (pc' := 13) (ls' := [(0, xr (131 + 2 * q))]) (st' := [xi 1]) rfl ?_
              refine ex_retz rfl (Or.inr rfl) rfl ?_
              refine ex_st 1 (pc' := 51) (ls' := [(7, xr (131 + 2 * q)), (6, xr (131 + 2 * n)), (0, xr 0), (1, xi (↑n)), (2, xi (↑i)), (3, xi (↑q)), (4, xi (↑j)), (5, xi (↑m))]) (st' := []) rfl ?_
              refine ex_st 1 (pc' := 53) (ls' := [(7, xr (131 + 2 * q)), (6, xr (131 + 2 * n)), (0, xr 0), (1, xi (↑n)), (2, xi (↑i)), (3, xi (↑q)), (4, xi (↑j)), (5, xi (↑m))]) (st' := [xr (131 + 2 * n)]) rfl ?_
              refine ex_gfi rfl (by omega) (x_tsh n (by omega)).1 (by decide) (by decide) rfl ?_
              refine ex_st 1 (pc' := 58) (ls' := [(7, xr (131 + 2 * q)), (6, xr (131 + 2 * n)), (0, xr 0), (1, xi (↑n)), (2, xi (↑i)), (3, xi (↑q)), (4, xi (↑j)), (5, xi (↑m))]) (st' := [xr (131 + 2 * q), xi (I (131 + 2 * n) 0)]) rfl ?_
              refine ex_gfi rfl (by omega) (x_tsh q (by omega)).1 (by decide) (by decide) rfl ?_
              refine ex_ic rfl (by first | omega | (constructor <;> omega) | assumption) (by first | omega | (constructor <;> omega) | assumption) (fun (h11 : (I (131 + 2 * n) 0) = (I (131 + 2 * q) 0)) => ?_) (fun (h11 : ¬ (I (131 + 2 * n) 0) = (I (131 + 2 * q) 0)) => ?_)
              · refine ex_st 3 (pc' := 72) (ls' := [(7, xr (131 + 2 * q)), (6, xr (131 + 2 * n)), (0, xr 0), (1, xi (↑n)), (2, xi (↑i)), (3, xi (↑q)), (4, xi (↑j)), (5, xi (↑m))]) (st' := [xi (↑m), xi (↑i), xr (131 + 2 * n)]) rfl ?_
                refine ex_inl (M' := xM_Tp_hasPlaces) (as := [xr (131 + 2 * n), xi (↑i), xi (↑m)]) (rest := []) (D' := 28) rfl (Nat.le_of_ble_eq_true rfl) (by decide) rfl ⟨rfl, rfl, rfl⟩ ⟨Nat.le_of_ble_eq_true rfl, rfl, rfl⟩ (Nat.le_of_ble_eq_true rfl) (x_recv_v (by omega) (x_tsh n (by omega)).1 (by decide)) ?_
                refine ex_st 1 (pc' := 1) (ls' := [(0, xr (131 + 2 * n)), (1, xi (↑i)), (2, xi (↑m))]) (st' := [xi (↑i)]) rfl ?_
                refine ex_if rfl (by first | omega | (constructor <;> omega) | assumption) (fun (h12 : (↑i : Int) < 0) => ?_) (fun (h12 : ¬ (↑i : Int) < 0) => ?_)
                · exfalso; omega
                · refine ex_st 1 (pc' := 5) (ls' := [(0, xr (131 + 2 * n)), (1, xi (↑i)), (2, xi (↑m))]) (st' := [xi (↑m)]) rfl ?_
                  refine ex_if rfl (by first | omega | (constructor <;> omega) | assumption) (fun (h13 : (↑m : Int) < 0) => ?_) (fun (h13 : ¬ (↑m : Int) < 0) => ?_)
                  · exfalso; omega
                  · refine ex_st 2 (pc' := 10) (ls' := [(0, xr (131 + 2 * n)), (1, xi (↑i)), (2, xi (↑m))]) (st' := [xr (131 + 2 * n), xi (↑i)]) rfl ?_
                    refine ex_gfi rfl (by omega) (x_tsh n (by omega)).1 (by decide) (by decide) rfl ?_
                    refine ex_ic rfl (by first | omega | (constructor <;> omega) | assumption) (by first | omega | (constructor <;> omega) | assumption) (fun (h14 : (I (131 + 2 * n) 1) < (↑i : Int)) => ?_) (fun (h14 : ¬ (I (131 + 2 * n) 1) < (↑i : Int)) => ?_)
                    · refine ex_st 1 (pc' := 31) (ls' := [(0, xr (131 + 2 * n)), (1, xi (↑i)), (2, xi (↑m))]) (st' := [xi 0]) rfl ?_
                      refine ex_retz rfl (Or.inl rfl) rfl ?_
                      refine ex_st 1 (pc' := 90) (ls' := [(7, xr (131 + 2 * q)), (6, xr (131 + 2 * n)), (0, xr 0), (1, xi (↑n)), (2, xi (↑i)), (3, xi (↑q)), (4, xi (↑j)), (5, xi (↑m))]) (st' := []) rfl ?_
                      refine ex_st 1 (pc' := 92) (ls' := [(7, xr (131 + 2 * q)), (6, xr (131 + 2 * n)), (0, xr 0), (1, xi (↑n)), (2, xi (↑i)), (3, xi (↑q)), (4, xi (↑j)), (5, xi (↑m))]) (st' := [xi (-13)]) rfl ?_
                      refine ex_reti rfl rfl ?_
                      refine x_CQ.of (M := xM_m_shift) rfl (Nat.le_of_ble_eq_true rfl) ?_
                      refine ex_st 2 (pc' := 2) (ls' := [(0, xr 143), (1, xi (↑n)), (2, xi (↑i)), (3, xi (↑q)), (4, xi (↑j)), (5, xi (↑m))]) (st' := [xi (↑n), xr 143]) rfl ?_
                      refine ex_call (ct_m_isTape (by first | omega | (constructor <;> omega) | assumption)) (by decide) rfl ⟨rfl, rfl, rfl⟩ ⟨Nat.le_of_ble_eq_true rfl, rfl, rfl⟩ (Nat.le_of_ble_eq_true rfl) rfl ?_
                      refine ex_beq rfl (fun h15 => ?_) (fun h15 => ?_)
                      · exfalso; omega
                      · refine ex_st 2 (pc' := 10) (ls' := [(0, xr 143), (1, xi (↑n)), (2, xi (↑i)), (3, xi (↑q)), (4, xi (↑j)), (5, xi (↑m))]) (st' := [xi (↑q), xr 143]) rfl ?_
                        refine ex_call (ct_m_isTape (by first | omega | (constructor <;> omega) | assumption)) (by decide) rfl ⟨rfl, rfl, rfl⟩ ⟨Nat.le_of_ble_eq_true rfl, rfl, rfl⟩ (Nat.le_of_ble_eq_true rfl) rfl ?_
                        refine ex_bne rfl (fun h16 => ?_) (fun h16 => ?_)
                        · refine ex_st 3 (pc' := 23) (ls' := [(0, xr 143), (1, xi (↑n)), (2, xi (↑i)), (3, xi (↑q)), (4, xi (↑j)), (5, xi (↑m))]) (st' := [xi (↑n), xr 191]) rfl ?_
                          refine ex_iald (j := n) rfl (by decide) (rfl : xSH[191]? = some _) (by omega) (by omega) (by decide) ?_
                          refine ex_if rfl (by first | omega | (constructor <;> omega) | assumption) (fun (h17 : (I 191 n) < 0) => ?_) (fun (h17 : ¬ (I 191 n) < 0) => ?_)
                          · exfalso; omega
                          · refine ex_st 3 (pc' := 32) (ls' := [(0, xr 143), (1, xi (↑n)), (2, xi (↑i)), (3, xi (↑q)), (4, xi (↑j)), (5, xi (↑m))]) (st' := [xi (↑q), xr 191]) rfl ?_
                            refine ex_iald (j := q) rfl (by decide) (rfl : xSH[191]? = some _) (by omega) (by omega) (by decide) ?_
                            refine ex_if rfl (by first | omega | (constructor <;> omega) | assumption) (fun (h18 : ((0 : Int)) ≤ (I 191 q)) => ?_) (fun (h18 : ¬ ((0 : Int)) ≤ (I 191 q)) => ?_)
                            · refine ex_st 3 (pc' := 44) (ls' := [(0, xr 143), (1, xi (↑n)), (2, xi (↑i)), (3, xi (↑q)), (4, xi (↑j)), (5, xi (↑m))]) (st' := [xi (↑n), xr 191]) rfl ?_
                              refine ex_iald (j := n) rfl (by decide) (rfl : xSH[191]? = some _) (by omega) (by omega) (by decide) ?_
                              refine ex_st 3 (pc' := 50) (ls' := [(0, xr 143), (1, xi (↑n)), (2, xi (↑i)), (3, xi (↑q)), (4, xi (↑j)), (5, xi (↑m))]) (st' := [xi (↑q), xr 191, xi (I 191 n)]) rfl ?_
                              refine ex_iald (j := q) rfl (by decide) (rfl : xSH[191]? = some _) (by omega) (by omega) (by decide) ?_
                              refine ex_ic rfl (by first | omega | (constructor <;> omega) | assumption) (by first | omega | (constructor <;> omega) | assumption) (fun (h19 : (I 191 n) = (I 191 q)) => ?_) (fun (h19 : ¬ (I 191 n) = (I 191 q)) => ?_)
                              · refine ex_st 1 (pc' := 59) (ls' := [(0, xr 143), (1, xi (↑n)), (2, xi (↑i)), (3, xi (↑q)), (4, xi (↑j)), (5, xi (↑m))]) (st' := [xi (↑m)]) rfl ?_
                                refine ex_if rfl (by first | omega | (constructor <;> omega) | assumption) (fun (h20 : (↑m : Int) < 0) => ?_) (fun (h20 : ¬ (↑m : Int) < 0) => ?_)
                                · exfalso; omega
                                · refine ex_st 1 (pc' := 63) (ls' := [(0, xr 143), (1, xi (↑n)), (2, xi (↑i)), (3, xi (↑q)), (4, xi (↑j)), (5, xi (↑m))]) (st' := [xi (↑i)]) rfl ?_
                                  refine ex_if rfl (by first | omega | (constructor <;> omega) | assumption) (fun (h21 : (↑i : Int) < 0) => ?_) (fun (h21 : ¬ (↑i : Int) < 0) => ?_)
                                  · exfalso; omega
                                  · refine ex_st 1 (pc' := 68) (ls' := [(0, xr 143), (1, xi (↑n)), (2, xi (↑i)), (3, xi (↑q)), (4, xi (↑j)), (5, xi (↑m))]) (st' := [xi (↑j)]) rfl ?_
                                    refine ex_if rfl (by first | omega | (constructor <;> omega) | assumption) (fun (h22 : (↑j : Int) < 0) => ?_) (fun (h22 : ¬ (↑j : Int) < 0) => ?_)
                                    · exfalso; omega
                                    · refine ex_st 4 (pc' := 77) (ls' := [(0, xr 143), (1, xi (↑n)), (2, xi (↑i)), (3, xi (↑q)), (4, xi (↑j)), (5, xi (↑m))]) (st' := [xi (↑n), xr 192, xi (↑i)]) rfl ?_
                                      refine ex_iald (j := n) rfl (by decide) (rfl : xSH[192]? = some _) (by omega) (by omega) (by decide) ?_
                                      refine ex_st 2 (pc' := 81) (ls' := [(0, xr 143), (1, xi (↑n)), (2, xi (↑i)), (3, xi (↑q)), (4, xi (↑j)), (5, xi (↑m))]) (st' := [xi ((I 192 n) - (↑m)), xi (↑i)]) rfl ?_
                                      refine ex_ic rfl (by first | omega | (constructor <;> omega) | assumption) (by first | omega | (constructor <;> omega) | assumption) (fun (h23 : ((I 192 n) - (↑m)) < (↑i : Int)) => ?_) (fun (h23 : ¬ ((I 192 n) - (↑m)) < (↑i : Int)) => ?_)
                                      · refine ex_st 1 (pc' := 100) (ls' := [(0, xr 143), (1, xi (↑n)), (2, xi (↑i)), (3, xi (↑q)), (4, xi (↑j)), (5, xi (↑m))]) (st' := [xi (-13)]) rfl ?_
                                        refine ex_reti rfl rfl ?_
                                        exact ⟨x_req (by first | rfl | omega), _, _, rfl, hR⟩
                                      · exfalso; omega
                              · exfalso; omega
                            · exfalso; omega
                        · exfalso; omega
                    · refine ex_st 2 (pc' := 18) (ls' := [(0, xr (131 + 2 * n)), (1, xi (↑i)), (2, xi (↑m))]) (st' := [xr (131 + 2 * n), xi (↑m)]) rfl ?_
                      refine ex_gfi rfl (by omega) (x_tsh n (by omega)).1 (by decide) (by decide) rfl ?_
                      refine ex_st 2 (pc' := 23) (ls' := [(0, xr (131 + 2 * n)), (1, xi (↑i)), (2, xi (↑m))]) (st' := [xi ((I (131 + 2 * n) 1) - (↑i)), xi (↑m)]) rfl ?_
                      refine ex_ic rfl (by first | omega | (constructor <;> omega) | assumption) (by first | omega | (constructor <;> omega) | assumption) (fun (h24 : ((I (131 + 2 * n) 1) - (↑i)) < (↑m : Int)) => ?_) (fun (h24 : ¬ ((I (131 + 2 * n) 1) - (↑i)) < (↑m : Int)) => ?_)
                      · refine ex_st 1 (pc' := 31) (ls' := [(0, xr (131 + 2 * n)), (1, xi (↑i)), (2, xi (↑m))]) (st' := [xi 0]) rfl ?_
                        refine ex_retz rfl (Or.inl rfl) rfl ?_
                        refine ex_st 1 (pc' := 90) (ls' := [(7, xr (131 + 2 * q)), (6, xr (131 + 2 * n)), (0, xr 0), (1, xi (↑n)), (2, xi (↑i)), (3, xi (↑q)), (4, xi (↑j)), (5, xi (↑m))]) (st' := []) rfl ?_
                        refine ex_st 1 (pc' := 92) (ls' := [(7, xr (131 + 2 * q)), (6, xr (131 + 2 * n)), (0, xr 0), (1, xi (↑n)), (2, xi (↑i)), (3, xi (↑q)), (4, xi (↑j)), (5, xi (↑m))]) (st' := [xi (-13)]) rfl ?_
                        refine ex_reti rfl rfl ?_
                        refine x_CQ.of (M := xM_m_shift) rfl (Nat.le_of_ble_eq_true rfl) ?_
                        refine ex_st 2 (pc' := 2) (ls' := [(0, xr 143), (1, xi (↑n)), (2, xi (↑i)), (3, xi (↑q)), (4, xi (↑j)), (5, xi (↑m))]) (st' := [xi (↑n), xr 143]) rfl ?_
                        refine ex_call (ct_m_isTape (by first | omega | (constructor <;> omega) | assumption)) (by decide) rfl ⟨rfl, rfl, rfl⟩ ⟨Nat.le_of_ble_eq_true rfl, rfl, rfl⟩ (Nat.le_of_ble_eq_true rfl) rfl ?_
                        refine ex_beq rfl (fun h25 => ?_) (fun h25 => ?_)
                        · exfalso; omega
                        · refine ex_st 2 (pc' := 10) (ls' := [(0, xr 143), (1, xi (↑n)), (2, xi (↑i)), (3, xi (↑q)), (4, xi (↑j)), (5, xi (↑m))]) (st' := [xi (↑q), xr 143]) rfl ?_
                          refine ex_call (ct_m_isTape (by first | omega | (constructor <;> omega) | assumption)) (by decide) rfl ⟨rfl, rfl, rfl⟩ ⟨Nat.le_of_ble_eq_true rfl, rfl, rfl⟩ (Nat.le_of_ble_eq_true rfl) rfl ?_
                          refine ex_bne rfl (fun h26 => ?_) (fun h26 => ?_)
                          · refine ex_st 3 (pc' := 23) (ls' := [(0, xr 143), (1, xi (↑n)), (2, xi (↑i)), (3, xi (↑q)), (4, xi (↑j)), (5, xi (↑m))]) (st' := [xi (↑n), xr 191]) rfl ?_
                            refine ex_iald (j := n) rfl (by decide) (rfl : xSH[191]? = some _) (by omega) (by omega) (by decide) ?_
                            refine ex_if rfl (by first | omega | (constructor <;> omega) | assumption) (fun (h27 : (I 191 n) < 0) => ?_) (fun (h27 : ¬ (I 191 n) < 0) => ?_)
                            · exfalso; omega
                            · refine ex_st 3 (pc' := 32) (ls' := [(0, xr 143), (1, xi (↑n)), (2, xi (↑i)), (3, xi (↑q)), (4, xi (↑j)), (5, xi (↑m))]) (st' := [xi (↑q), xr 191]) rfl ?_
                              refine ex_iald (j := q) rfl (by decide) (rfl : xSH[191]? = some _) (by omega) (by omega) (by decide) ?_
                              refine ex_if rfl (by first | omega | (constructor <;> omega) | assumption) (fun (h28 : ((0 : Int)) ≤ (I 191 q)) => ?_) (fun (h28 : ¬ ((0 : Int)) ≤ (I 191 q)) => ?_)
                              · refine ex_st 3 (pc' := 44) (ls' := [(0, xr 143), (1, xi (↑n)), (2, xi (↑i)), (3, xi (↑q)), (4, xi (↑j)), (5, xi (↑m))]) (st' := [xi (↑n), xr 191]) rfl ?_
                                refine ex_iald (j := n) rfl (by decide) (rfl : xSH[191]? = some _) (by omega) (by omega) (by decide) ?_
                                refine ex_st 3 (pc' := 50) (ls' := [(0, xr 143), (1, xi (↑n)), (2, xi (↑i)), (3, xi (↑q)), (4, xi (↑j)), (5, xi (↑m))]) (st' := [xi (↑q), xr 191, xi (I 191 n)]) rfl ?_
                                refine ex_iald (j := q) rfl (by decide) (rfl : xSH[191]? = some _) (by omega) (by omega) (by decide) ?_
                                refine ex_ic rfl (by first | omega | (constructor <;> omega) | assumption) (by first | omega | (constructor <;> omega) | assumption) (fun (h29 : (I 191 n) = (I 191 q)) => ?_) (fun (h29 : ¬ (I 191 n) = (I 191 q)) => ?_)
                                · refine ex_st 1 (pc' := 59) (ls' := [(0, xr 143), (1, xi (↑n)), (2, xi (↑i)), (3, xi (↑q)), (4, xi (↑j)), (5, xi (↑m))]) (st' := [xi (↑m)]) rfl ?_
                                  refine ex_if rfl (by first | omega | (constructor <;> omega) | assumption) (fun (h30 : (↑m : Int) < 0) => ?_) (fun (h30 : ¬ (↑m : Int) < 0) => ?_)
                                  · exfalso; omega
                                  · refine ex_st 1 (pc' := 63) (ls' := [(0, xr 143), (1, xi (↑n)), (2, xi (↑i)), (3, xi (↑q)), (4, xi (↑j)), (5, xi (↑m))]) (st' := [xi (↑i)]) rfl ?_
                                    refine ex_if rfl (by first | omega | (constructor <;> omega) | assumption) (fun (h31 : (↑i : Int) < 0) => ?_) (fun (h31 : ¬ (↑i : Int) < 0) => ?_)
                                    · exfalso; omega
                                    · refine ex_st 1 (pc' := 68) (ls' := [(0, xr 143), (1, xi (↑n)), (2, xi (↑i)), (3, xi (↑q)), (4, xi (↑j)), (5, xi (↑m))]) (st' := [xi (↑j)]) rfl ?_
                                      refine ex_if rfl (by first | omega | (constructor <;> omega) | assumption) (fun (h32 : (↑j : Int) < 0) => ?_) (fun (h32 : ¬ (↑j : Int) < 0) => ?_)
                                      · exfalso; omega
                                      · refine ex_st 4 (pc' := 77) (ls' := [(0, xr 143), (1, xi (↑n)), (2, xi (↑i)), (3, xi (↑q)), (4, xi (↑j)), (5, xi (↑m))]) (st' := [xi (↑n), xr 192, xi (↑i)]) rfl ?_
                                        refine ex_iald (j := n) rfl (by decide) (rfl : xSH[192]? = some _) (by omega) (by omega) (by decide) ?_
                                        refine ex_st 2 (pc' := 81) (ls' := [(0, xr 143), (1, xi (↑n)), (2, xi (↑i)), (3, xi (↑q)), (4, xi (↑j)), (5, xi (↑m))]) (st' := [xi ((I 192 n) - (↑m)), xi (↑i)]) rfl ?_
                                        refine ex_ic rfl (by first | omega | (constructor <;> omega) | assumption) (by first | omega | (constructor <;> omega) | assumption) (fun (h33 : ((I 192 n) - (↑m)) < (↑i : Int)) => ?_) (fun (h33 : ¬ ((I 192 n) - (↑m)) < (↑i : Int)) => ?_)
                                        · refine ex_st 1 (pc' := 100) (ls' := [(0, xr 143), (1, xi (↑n)), (2, xi (↑i)), (3, xi (↑q)), (4, xi (↑j)), (5, xi (↑m))]) (st' := [xi (-13)]) rfl ?_
                                          refine ex_reti rfl rfl ?_
                                          exact ⟨x_req (by first | rfl | omega), _, _, rfl, hR⟩
                                        · exfalso; omega
                                · exfalso; omega
                              · exfalso; omega
                          · exfalso; omega
                      · refine ex_st 2 (pc' := 31) (ls' := [(0, xr (131 + 2 * n)), (1, xi (↑i)), (2, xi (↑m))]) (st' := [xi 1]) rfl ?_
                        refine ex_retz rfl (Or.inr rfl) rfl ?_
                        refine ex_st 1 (pc' := 78) (ls' := [(7, xr (131 + 2 * q)), (6, xr (131 + 2 * n)), (0, xr 0), (1, xi (↑n)), (2, xi (↑i)), (3, xi (↑q)), (4, xi (↑j)), (5, xi (↑m))]) (st' := []) rfl ?_
                        refine ex_st 3 (pc' := 84) (ls' := [(7, xr (131 + 2 * q)), (6, xr (131 + 2 * n)), (0, xr 0), (1, xi (↑n)), (2, xi (↑i)), (3, xi (↑q)), (4, xi (↑j)), (5, xi (↑m))]) (st' := [xi (↑m), xi (↑j), xr (131 + 2 * q)]) rfl ?_
                        refine ex_inl (M' := xM_Tp_hasPlaces) (as := [xr (131 + 2 * q), xi (↑j), xi (↑m)]) (rest := []) (D' := 28) rfl (Nat.le_of_ble_eq_true rfl) (by decide) rfl ⟨rfl, rfl, rfl⟩ ⟨Nat.le_of_ble_eq_true rfl, rfl, rfl⟩ (Nat.le_of_ble_eq_true rfl) (x_recv_v (by omega) (x_tsh q (by omega)).1 (by decide)) ?_
                        refine ex_st 1 (pc' := 1) (ls' := [(0, xr (131 + 2 * q)), (1, xi (↑j)), (2, xi (↑m))]) (st' := [xi (↑j)]) rfl ?_
                        refine ex_if rfl (by first | omega | (constructor <;> omega) | assumption) (fun (h34 : (↑j : Int) < 0) => ?_) (fun (h34 : ¬ (↑j : Int) < 0) => ?_)
                        · exfalso; omega
                        · refine ex_st 1 (pc' := 5) (ls' := [(0, xr (131 + 2 * q)), (1, xi (↑j)), (2, xi (↑m))]) (st' := [xi (↑m)]) rfl ?_
                          refine ex_if rfl (by first | omega | (constructor <;> omega) | assumption) (fun (h35 : (↑m : Int) < 0) => ?_) (fun (h35 : ¬ (↑m : Int) < 0) => ?_)
                          · exfalso; omega
                          · refine ex_st 2 (pc' := 10) (ls' := [(0, xr (131 + 2 * q)), (1, xi (↑j)), (2, xi (↑m))]) (st' := [xr (131 + 2 * q), xi (↑j)]) rfl ?_
                            refine ex_gfi rfl (by omega) (x_tsh q (by omega)).1 (by decide) (by decide) rfl ?_
                            refine ex_ic rfl (by first | omega | (constructor <;> omega) | assumption) (by first | omega | (constructor <;> omega) | assumption) (fun (h36 : (I (131 + 2 * q) 1) < (↑j : Int)) => ?_) (fun (h36 : ¬ (I (131 + 2 * q) 1) < (↑j : Int)) => ?_)
                            · refine ex_st 1 (pc' := 31) (ls' := [(0, xr (131 + 2 * q)), (1, xi (↑j)), (2, xi (↑m))]) (st' := [xi 0]) rfl ?_
                              refine ex_retz rfl (Or.inl rfl) rfl ?_
                              refine ex_st 1 (pc' := 90) (ls' := [(7, xr (131 + 2 * q)), (6, xr (131 + 2 * n)), (0, xr 0), (1, xi (↑n)), (2, xi (↑i)), (3, xi (↑q)), (4, xi (↑j)), (5, xi (↑m))]) (st' := []) rfl ?_
                              refine ex_st 1 (pc' := 92) (ls' := [(7, xr (131 + 2 * q)), (6, xr (131 + 2 * n)), (0, xr 0), (1, xi (↑n)), (2, xi (↑i)), (3, xi (↑q)), (4, xi (↑j)), (5, xi (↑m))]) (st' := [xi (-13)]) rfl ?_
                              refine ex_reti rfl rfl ?_
                              refine x_CQ.of (M := xM_m_shift) rfl (Nat.le_of_ble_eq_true rfl) ?_
                              refine ex_st 2 (pc' := 2) (ls' := [(0, xr 143), (1, xi (↑n)), (2, xi (↑i)), (3, xi (↑q)), (4, xi (↑j)), (5, xi (↑m))]) (st' := [xi (↑n), xr 143]) rfl ?_
                              refine ex_call (ct_m_isTape (by first | omega | (constructor <;> omega) | assumption)) (by decide) rfl ⟨rfl, rfl, rfl⟩ ⟨Nat.le_of_ble_eq_true rfl, rfl, rfl⟩ (Nat.le_of_ble_eq_true rfl) rfl ?_
                              refine ex_beq rfl (fun h37 => ?_) (fun h37 => ?_)
                              · exfalso; omega
                              · refine ex_st 2 (pc' := 10) (ls' := [(0, xr 143), (1, xi (↑n)), (2, xi (↑i)), (3, xi (↑q)), (4, xi (↑j)), (5, xi (↑m))]) (st' := [xi (↑q), xr 143]) rfl ?_
                                refine ex_call (ct_m_isTape (by first | omega | (constructor <;> omega) | assumption)) (by decide) rfl ⟨rfl, rfl, rfl⟩ ⟨Nat.le_of_ble_eq_true rfl, rfl, rfl⟩ (Nat.le_of_ble_eq_true rfl) rfl ?_
                                refine ex_bne rfl (fun h38 => ?_) (fun h38 => ?_)
                                · refine ex_st 3 (pc' := 23) (ls' := [(0, xr 143), (1, xi (↑n)), (2, xi (↑i)), (3, xi (↑q)), (4, xi (↑j)), (5, xi (↑m))]) (st' := [xi (↑n), xr 191]) rfl ?_
                                  refine ex_iald (j := n) rfl (by decide) (rfl : xSH[191]? = some _) (by omega) (by omega) (by decide) ?_
                                  refine ex_if rfl (by first | omega | (constructor <;> omega) | assumption) (fun (h39 : (I 191 n) < 0) => ?_) (fun (h39 : ¬ (I 191 n) < 0) => ?_)
                                  · exfalso; omega
                                  · refine ex_st 3 (pc' := 32) (ls' := [(0, xr 143), (1, xi (↑n)), (2, xi (↑i)), (3, xi (↑q)), (4, xi (↑j)), (5, xi (↑m))]) (st' := [xi (↑q), xr 191]) rfl ?_
                                    refine ex_iald (j := q) rfl (by decide) (rfl : xSH[191]? = some _) (by omega) (by omega) (by decide) ?_
                                    refine ex_if rfl (by first | omega | (constructor <;> omega) | assumption) (fun (h40 : ((0 : Int)) ≤ (I 191 q)) => ?_) (fun (h40 : ¬ ((0 : Int)) ≤ (I 191 q)) => ?_)
                                    · refine ex_st 3 (pc' := 44) (ls' := [(0, xr 143), (1, xi (↑n)), (2, xi (↑i)), (3, xi (↑q)), (4, xi (↑j)), (5, xi (↑m))]) (st' := [xi (↑n), xr 191]) rfl ?_
                                      refine ex_iald (j := n) rfl (by decide) (rfl : xSH[191]? = some _) (by omega) (by omega) (by decide) ?_
                                      refine ex_st 3 (pc' := 50) (ls' := [(0, xr 143), (1, xi (↑n)), (2, xi (↑i)), (3, xi (↑q)), (4, xi (↑j)), (5, xi (↑m))]) (st' := [xi (↑q), xr 191, xi (I 191 n)]) rfl ?_
                                      refine ex_iald (j := q) rfl (by decide) (rfl : xSH[191]? = some _) (by omega) (by omega) (by decide) ?_
                                      refine ex_ic rfl (by first | omega | (constructor <;> omega) | assumption) (by first | omega | (constructor <;> omega) | assumption) (fun (h41 : (I 191 n) = (I 191 q)) => ?_) (fun (h41 : ¬ (I 191 n) = (I 191 q)) => ?_)
                                      · refine ex_st 1 (pc' := 59) (ls' := [(0, xr 143), (1, xi (↑n)), (2, xi (↑i)), (3, xi (↑q)), (4, xi (↑j)), (5, xi (↑m))]) (st' := [xi (↑m)]) rfl ?_
                                        refine ex_if rfl (by first | omega | (constructor <;> omega) | assumption) (fun (h42 : (↑m : Int) < 0) => ?_) (fun (h42 : ¬ (↑m : Int) < 0) => ?_)
                                        · exfalso; omega
                                        · refine ex_st 1 (pc' := 63) (ls' := [(0, xr 143), (1, xi (↑n)), (2, xi (↑i)), (3, xi (↑q)), (4, xi (↑j)), (5, xi (↑m))]) (st' := [xi (↑i)]) rfl ?_
                                          refine ex_if rfl (by first | omega | (constructor <;> omega) | assumption) (fun (h43 : (↑i : Int) < 0) => ?_) (fun (h43 : ¬ (↑i : Int) < 0) => ?_)
                                          · exfalso; omega
                                          · refine ex_st 1 (pc' := 68) (ls' := [(0, xr 143), (1, xi (↑n)), (2, xi (↑i)), (3, xi (↑q)), (4, xi (↑j)), (5, xi (↑m))]) (st' := [xi (↑j)]) rfl ?_
                                            refine ex_if rfl (by first | omega | (constructor <;> omega) | assumption) (fun (h44 : (↑j : Int) < 0) => ?_) (fun (h44 : ¬ (↑j : Int) < 0) => ?_)
                                            · exfalso; omega
                                            · refine ex_st 4 (pc' := 77) (ls' := [(0, xr 143), (1, xi (↑n)), (2, xi (↑i)), (3, xi (↑q)), (4, xi (↑j)), (5, xi (↑m))]) (st' := [xi (↑n), xr 192, xi (↑i)]) rfl ?_
                                              refine ex_iald (j := n) rfl (by decide) (rfl : xSH[192]? = some _) (by omega) (by omega) (by decide) ?_
                                              refine ex_st 2 (pc' := 81) (ls' := [(0, xr 143), (1, xi (↑n)), (2, xi (↑i)), (3, xi (↑q)), (4, xi (↑j)), (5, xi (↑m))]) (st' := [xi ((I 192 n) - (↑m)), xi (↑i)]) rfl ?_
                                              refine ex_ic rfl (by first | omega | (constructor <;> omega) | assumption) (by first | omega | (constructor <;> omega) | assumption) (fun (h45 : ((I 192 n) - (↑m)) < (↑i : Int)) => ?_) (fun (h45 : ¬ ((I 192 n) - (↑m)) < (↑i : Int)) => ?_)
                                              · exfalso; omega
                                              · refine ex_st 4 (pc' := 91) (ls' := [(0, xr 143), (1, xi (↑n)), (2, xi (↑i)), (3, xi (↑q)), (4, xi (↑j)), (5, xi (↑m))]) (st' := [xi (↑q), xr 192, xi (↑j)]) rfl ?_
                                                refine ex_iald (j := q) rfl (by decide) (rfl : xSH[192]? = some _) (by omega) (by omega) (by decide) ?_
                                                refine ex_st 2 (pc' := 95) (ls' := [(0, xr 143), (1, xi (↑n)), (2, xi (↑i)), (3, xi (↑q)), (4, xi (↑j)), (5, xi (↑m))]) (st' := [xi ((I 192 q) - (↑m)), xi (↑j)]) rfl ?_
                                                refine ex_ic rfl (by first | omega | (constructor <;> omega) | assumption) (by first | omega | (constructor <;> omega) | assumption) (fun (h46 : (↑j : Int) ≤ ((I 192 q) - (↑m))) => ?_) (fun (h46 : ¬ (↑j : Int) ≤ ((I 192 q) - (↑m))) => ?_)
                                                · exfalso; omega
                                                · refine ex_st 1 (pc' := 100) (ls' := [(0, xr 143), (1, xi (↑n)), (2, xi (↑i)), (3, xi (↑q)), (4, xi (↑j)), (5, xi (↑m))]) (st' := [xi (-13)]) rfl ?_
                                                  refine ex_reti rfl rfl ?_
                                                  exact ⟨x_req (by first | rfl | omega), _, _, rfl, hR⟩
                                      · exfalso; omega
                                    · exfalso; omega
                                · exfalso; omega
                            · refine ex_st 2 (pc' := 18) (ls' := [(0, xr (131 + 2 * q)), (1, xi (↑j)), (2, xi (↑m))]) (st' := [xr (131 + 2 * q), xi (↑m)]) rfl ?_
                              refine ex_gfi rfl (by omega) (x_tsh q (by omega)).1 (by decide) (by decide) rfl ?_
                              refine ex_st 2 (pc' := 23) (ls' := [(0, xr (131 + 2 * q)), (1, xi (↑j)), (2, xi (↑m))]) (st' := [xi ((I (131 + 2 * q) 1) - (↑j)), xi (↑m)]) rfl ?_
                              refine ex_ic rfl (by first | omega | (constructor <;> omega) | assumption) (by first | omega | (constructor <;> omega) | assumption) (fun (h47 : ((I (131 + 2 * q) 1) - (↑j)) < (↑m : Int)) => ?_) (fun (h47 : ¬ ((I (131 + 2 * q) 1) - (↑j)) < (↑m : Int)) => ?_)
                              · refine ex_st 1 (pc' := 31) (ls' := [(0, xr (131 + 2 * q)), (1, xi (↑j)), (2, xi (↑m))]) (st' := [xi 0]) rfl ?_
                                refine ex_retz rfl (Or.inl rfl) rfl ?_
                                refine ex_st 1 (pc' := 90) (ls' := [(7, xr (131 + 2 * q)), (6, xr (131 + 2 * n)), (0, xr 0), (1, xi (↑n)), (2, xi (↑i)), (3, xi (↑q)), (4, xi (↑j)), (5, xi (↑m))]) (st' := []) rfl ?_
                                refine ex_st 1 (pc' := 92) (ls' := [(7, xr (131 + 2 * q)), (6, xr (131 + 2 * n)), (0, xr 0), (1, xi (↑n)), (2, xi (↑i)), (3, xi (↑q)), (4, xi (↑j)), (5, xi (↑m))]) (st' := [xi (-13)]) rfl ?_
                                refine ex_reti rfl rfl ?_
                                refine x_CQ.of (M := xM_m_shift) rfl (Nat.le_of_ble_eq_true rfl) ?_
                                refine ex_st 2 (pc' := 2) (ls' := [(0, xr 143), (1, xi (↑n)), (2, xi (↑i)), (3, xi (↑q)), (4, xi (↑j)), (5, xi (↑m))]) (st' := [xi (↑n), xr 143]) rfl ?_
                                refine ex_call (ct_m_isTape (by first | omega | (constructor <;> omega) | assumption)) (by decide) rfl ⟨rfl, rfl, rfl⟩ ⟨Nat.le_of_ble_eq_true rfl, rfl, rfl⟩ (Nat.le_of_ble_eq_true rfl) rfl ?_
                                refine ex_beq rfl (fun h48 => ?_) (fun h48 => ?_)
                                · exfalso; omega
                                · refine ex_st 2 (pc' := 10) (ls' := [(0, xr 143), (1, xi (↑n)), (2, xi (↑i)), (3, xi (↑q)), (4, xi (↑j)), (5, xi (↑m))]) (st' := [xi (↑q), xr 143]) rfl ?_
                                  refine ex_call (ct_m_isTape (by first | omega | (constructor <;> omega) | assumption)) (by decide) rfl ⟨rfl, rfl, rfl⟩ ⟨Nat.le_of_ble_eq_true rfl, rfl, rfl⟩ (Nat.le_of_ble_eq_true rfl) rfl ?_
                                  refine ex_bne rfl (fun h49 => ?_) (fun h49 => ?_)
                                  · refine ex_st 3 (pc' := 23) (ls' := [(0, xr 143), (1, xi (↑n)), (2, xi (↑i)), (3, xi (↑q)), (4, xi (↑j)), (5, xi (↑m))]) (st' := [xi (↑n), xr 191]) rfl ?_
                                    refine ex_iald (j := n) rfl (by decide) (rfl : xSH[191]? = some _) (by omega) (by omega) (by decide) ?_
                                    refine ex_if rfl (by first | omega | (constructor <;> omega) | assumption) (fun (h50 : (I 191 n) < 0) => ?_) (fun (h50 : ¬ (I 191 n) < 0) => ?_)
                                    · exfalso; omega
                                    · refine ex_st 3 (pc' := 32) (ls' := [(0, xr 143), (1, xi (↑n)), (2, xi (↑i)), (3, xi (↑q)), (4, xi (↑j)), (5, xi (↑m))]) (st' := [xi (↑q), xr 191]) rfl ?_
                                      refine ex_iald (j := q) rfl (by decide) (rfl : xSH[191]? = some _) (by omega) (by omega) (by decide) ?_
                                      refine ex_if rfl (by first | omega | (constructor <;> omega) | assumption) (fun (h51 : ((0 : Int)) ≤ (I 191 q)) => ?_) (fun (h51 : ¬ ((0 : Int)) ≤ (I 191 q)) => ?_)
                                      · refine ex_st 3 (pc' := 44) (ls' := [(0, xr 143), (1, xi (↑n)), (2, xi (↑i)), (3, xi (↑q)), (4, xi (↑j)), (5, xi (↑m))]) (st' := [xi (↑n), xr 191]) rfl ?_
                                        refine ex_iald (j := n) rfl (by decide) (rfl : xSH[191]? = some _) (by omega) (by omega) (by decide) ?_
                                        refine ex_st 3 (pc' := 50) (ls' := [(0, xr 143), (1, xi (↑n)), (2, xi (↑i)), (3, xi (↑q)), (4, xi (↑j)), (5, xi (↑m))]) (st' := [xi (↑q), xr 191, xi (I 191 n)]) rfl ?_
                                        refine ex_iald (j := q) rfl (by decide) (rfl : xSH[191]? = some _) (by omega) (by omega) (by decide) ?_
                                        refine ex_ic rfl (by first | omega | (constructor <;> omega) | assumption) (by first | omega | (constructor <;> omega) | assumption) (fun (h52 : (I 191 n) = (I 191 q)) => ?_) (fun (h52 : ¬ (I 191 n) = (I 191 q)) => ?_)
                                        · refine ex_st 1 (pc' := 59) (ls' := [(0, xr 143), (1, xi (↑n)), (2, xi (↑i)), (3, xi (↑q)), (4, xi (↑j)), (5, xi (↑m))]) (st' := [xi (↑m)]) rfl ?_
                                          refine ex_if rfl (by first | omega | (constructor <;> omega) | assumption) (fun (h53 : (↑m : Int) < 0) => ?_) (fun (h53 : ¬ (↑m : Int) < 0) => ?_)
                                          · exfalso; omega
                                          · refine ex_st 1 (pc' := 63) (ls' := [(0, xr 143), (1, xi (↑n)), (2, xi (↑i)), (3, xi (↑q)), (4, xi (↑j)), (5, xi (↑m))]) (st' := [xi (↑i)]) rfl ?_
                                            refine ex_if rfl (by first | omega | (constructor <;> omega) | assumption) (fun (h54 : (↑i : Int) < 0) => ?_) (fun (h54 : ¬ (↑i : Int) < 0) => ?_)
                                            · exfalso; omega
                                            · refine ex_st 1 (pc' := 68) (ls' := [(0, xr 143), (1, xi (↑n)), (2, xi (↑i)), (3, xi (↑q)), (4, xi (↑j)), (5, xi (↑m))]) (st' := [xi (↑j)]) rfl ?_
                                              refine ex_if rfl (by first | omega | (constructor <;> omega) | assumption) (fun (h55 : (↑j : Int) < 0) => ?_) (fun (h55 : ¬ (↑j : Int) < 0) => ?_)
                                              · exfalso; omega
                                              · refine ex_st 4 (pc' := 77) (ls' := [(0, xr 143), (1, xi (↑n)), (2, xi (↑i)), (3, xi (↑q)), (4, xi (↑j)), (5, xi (↑m))]) (st' := [xi (↑n), xr 192, xi (↑i)]) rfl ?_
                                                refine ex_iald (j := n) rfl (by decide) (rfl : xSH[192]? = some _) (by omega) (by omega) (by decide) ?_
                                                refine ex_st 2 (pc' := 81) (ls' := [(0, xr 143), (1, xi (↑n)), (2, xi (↑i)), (3, xi (↑q)), (4, xi (↑j)), (5, xi (↑m))]) (st' := [xi ((I 192 n) - (↑m)), xi (↑i)]) rfl ?_
                                                refine ex_ic rfl (by first | omega | (constructor <;> omega) | assumption) (by first | omega | (constructor <;> omega) | assumption) (fun (h56 : ((I 192 n) - (↑m)) < (↑i : Int)) => ?_) (fun (h56 : ¬ ((I 192 n) - (↑m)) < (↑i : Int)) => ?_)
                                                · exfalso; omega
                                                · refine ex_st 4 (pc' := 91) (ls' := [(0, xr 143), (1, xi (↑n)), (2, xi (↑i)), (3, xi (↑q)), (4, xi (↑j)), (5, xi (↑m))]) (st' := [xi (↑q), xr 192, xi (↑j)]) rfl ?_
                                                  refine ex_iald (j := q) rfl (by decide) (rfl : xSH[192]? = some _) (by omega) (by omega) (by decide) ?_
                                                  refine ex_st 2 (pc' := 95) (ls' := [(0, xr 143), (1, xi (↑n)), (2, xi (↑i)), (3, xi (↑q)), (4, xi (↑j)), (5, xi (↑m))]) (st' := [xi ((I 192 q) - (↑m)), xi (↑j)]) rfl ?_
                                                  refine ex_ic rfl (by first | omega | (constructor <;> omega) | assumption) (by first | omega | (constructor <;> omega) | assumption) (fun (h57 : (↑j : Int) ≤ ((I 192 q) - (↑m))) => ?_) (fun (h57 : ¬ (↑j : Int) ≤ ((I 192 q) - (↑m))) => ?_)
                                                  · exfalso; omega
                                                  · refine ex_st 1 (pc' := 100) (ls' := [(0, xr 143), (1, xi (↑n)), (2, xi (↑i)), (3, xi (↑q)), (4, xi (↑j)), (5, xi (↑m))]) (st' := [xi (-13)]) rfl ?_
                                                    refine ex_reti rfl rfl ?_
                                                    exact ⟨x_req (by first | rfl | omega), _, _, rfl, hR⟩
                                        · exfalso; omega
                                      · exfalso; omega
                                  · exfalso; omega
                              · refine ex_st 2 (pc' := 31) (ls' := [(0, xr (131 + 2 * q)), (1, xi (↑j)), (2, xi (↑m))]) (st' := [xi 1]) rfl ?_
                                refine ex_retz rfl (Or.inr rfl) rfl ?_
                                refine ex_st 1 (pc' := 93) (ls' := [(7, xr (131 + 2 * q)), (6, xr (131 + 2 * n)), (0, xr 0), (1, xi (↑n)), (2, xi (↑i)), (3, xi (↑q)), (4, xi (↑j)), (5, xi (↑m))]) (st' := []) rfl ?_
                                refine ex_st 1 (pc' := 95) (ls' := [(7, xr (131 + 2 * q)), (6, xr (131 + 2 * n)), (0, xr 0), (1, xi (↑n)), (2, xi (↑i)), (3, xi (↑q)), (4, xi (↑j)), (5, xi (↑m))]) (st' := [xr (131 + 2 * n)]) rfl ?_
                                refine ex_gfr rfl (by omega) (x_tsh n (by omega)).1 (by decide) (by decide) rfl ?_
                                refine ex_st 2 (pc' := 101) (ls' := [(7, xr (131 + 2 * q)), (6, xr (131 + 2 * n)), (0, xr 0), (1, xi (↑n)), (2, xi (↑i)), (3, xi (↑q)), (4, xi (↑j)), (5, xi (↑m))]) (st' := [xr (131 + 2 * q), xi (↑i), xr (131 + 2 * n + 1)]) rfl ?_
                                refine ex_gfr rfl (by omega) (x_tsh q (by omega)).1 (by decide) (by decide) rfl ?_
                                refine ex_st 2 (pc' := 108) (ls' := [(7, xr (131 + 2 * q)), (6, xr (131 + 2 * n)), (0, xr 0), (1, xi (↑n)), (2, xi (↑i)), (3, xi (↑q)), (4, xi (↑j)), (5, xi (↑m))]) (st' := [xi (↑m), xi (↑j), xr (131 + 2 * q + 1), xi (↑i), xr (131 + 2 * n + 1)]) rfl ?_
                                refine ex_cpyL (nn := m) (sn := i) (dn := j) rfl ⟨(by omega), (by omega)⟩ (x_tsh n (by omega)).2 (x_tsh q (by omega)).2 ⟨(by omega), (by omega), (by omega)⟩ (by decide) ⟨by omega, by decide⟩ ⟨by omega, by decide⟩ ?_
                                refine ex_st 1 (pc' := 113) (ls' := [(7, xr (131 + 2 * q)), (6, xr (131 + 2 * n)), (0, xr 0), (1, xi (↑n)), (2, xi (↑i)), (3, xi (↑q)), (4, xi (↑j)), (5, xi (↑m))]) (st' := [xi (↑m)]) rfl ?_
                                refine ex_reti rfl rfl ?_
                                refine x_CQ.of (M := xM_m_shift) rfl (Nat.le_of_ble_eq_true rfl) ?_
                                refine ex_st 2 (pc' := 2) (ls' := [(0, xr 143), (1, xi (↑n)), (2, xi (↑i)), (3, xi (↑q)), (4, xi (↑j)), (5, xi (↑m))]) (st' := [xi (↑n), xr 143]) rfl ?_
                                refine ex_call (ct_m_isTape (by first | omega | (constructor <;> omega) | assumption)) (by decide) rfl ⟨rfl, rfl, rfl⟩ ⟨Nat.le_of_ble_eq_true rfl, rfl, rfl⟩ (Nat.le_of_ble_eq_true rfl) rfl ?_
                                refine ex_beq rfl (fun h58 => ?_) (fun h58 => ?_)
                                · exfalso; omega
                                · refine ex_st 2 (pc' := 10) (ls' := [(0, xr 143), (1, xi (↑n)), (2, xi (↑i)), (3, xi (↑q)), (4, xi (↑j)), (5, xi (↑m))]) (st' := [xi (↑q), xr 143]) rfl ?_
                                  refine ex_call (ct_m_isTape (by first | omega | (constructor <;> omega) | assumption)) (by decide) rfl ⟨rfl, rfl, rfl⟩ ⟨Nat.le_of_ble_eq_true rfl, rfl, rfl⟩ (Nat.le_of_ble_eq_true rfl) rfl ?_
                                  refine ex_bne rfl (fun h59 => ?_) (fun h59 => ?_)
                                  · refine ex_st 3 (pc' := 23) (ls' := [(0, xr 143), (1, xi (↑n)), (2, xi (↑i)), (3, xi (↑q)), (4, xi (↑j)), (5, xi (↑m))]) (st' := [xi (↑n), xr 191]) rfl ?_
                                    refine ex_iald (j := n) rfl (by decide) (rfl : xSH[191]? = some _) (by omega) (by omega) (by decide) ?_
                                    refine ex_if rfl (by first | omega | (constructor <;> omega) | assumption) (fun (h60 : (I 191 n) < 0) => ?_) (fun (h60 : ¬ (I 191 n) < 0) => ?_)
                                    · exfalso; omega
                                    · refine ex_st 3 (pc' := 32) (ls' := [(0, xr 143), (1, xi (↑n)), (2, xi (↑i)), (3, xi (↑q)), (4, xi (↑j)), (5, xi (↑m))]) (st' := [xi (↑q), xr 191]) rfl ?_
                                      refine ex_iald (j := q) rfl (by decide) (rfl : xSH[191]? = some _) (by omega) (by omega) (by decide) ?_
                                      refine ex_if rfl (by first | omega | (constructor <;> omega) | assumption) (fun (h61 : ((0 : Int)) ≤ (I 191 q)) => ?_) (fun (h61 : ¬ ((0 : Int)) ≤ (I 191 q)) => ?_)
                                      · refine ex_st 3 (pc' := 44) (ls' := [(0, xr 143), (1, xi (↑n)), (2, xi (↑i)), (3, xi (↑q)), (4, xi (↑j)), (5, xi (↑m))]) (st' := [xi (↑n), xr 191]) rfl ?_
                                        refine ex_iald (j := n) rfl (by decide) (rfl : xSH[191]? = some _) (by omega) (by omega) (by decide) ?_
                                        refine ex_st 3 (pc' := 50) (ls' := [(0, xr 143), (1, xi (↑n)), (2, xi (↑i)), (3, xi (↑q)), (4, xi (↑j)), (5, xi (↑m))]) (st' := [xi (↑q), xr 191, xi (I 191 n)]) rfl ?_
                                        refine ex_iald (j := q) rfl (by decide) (rfl : xSH[191]? = some _) (by omega) (by omega) (by decide) ?_
                                        refine ex_ic rfl (by first | omega | (constructor <;> omega) | assumption) (by first | omega | (constructor <;> omega) | assumption) (fun (h62 : (I 191 n) = (I 191 q)) => ?_) (fun (h62 : ¬ (I 191 n) = (I 191 q)) => ?_)
                                        · refine ex_st 1 (pc' := 59) (ls' := [(0, xr 143), (1, xi (↑n)), (2, xi (↑i)), (3, xi (↑q)), (4, xi (↑j)), (5, xi (↑m))]) (st' := [xi (↑m)]) rfl ?_
                                          refine ex_if rfl (by first | omega | (constructor <;> omega) | assumption) (fun (h63 : (↑m : Int) < 0) => ?_) (fun (h63 : ¬ (↑m : Int) < 0) => ?_)
                                          · exfalso; omega
                                          · refine ex_st 1 (pc' := 63) (ls' := [(0, xr 143), (1, xi (↑n)), (2, xi (↑i)), (3, xi (↑q)), (4, xi (↑j)), (5, xi (↑m))]) (st' := [xi (↑i)]) rfl ?_
                                            refine ex_if rfl (by first | omega | (constructor <;> omega) | assumption) (fun (h64 : (↑i : Int) < 0) => ?_) (fun (h64 : ¬ (↑i : Int) < 0) => ?_)
                                            · exfalso; omega
                                            · refine ex_st 1 (pc' := 68) (ls' := [(0, xr 143), (1, xi (↑n)), (2, xi (↑i)), (3, xi (↑q)), (4, xi (↑j)), (5, xi (↑m))]) (st' := [xi (↑j)]) rfl ?_
                                              refine ex_if rfl (by first | omega | (constructor <;> omega) | assumption) (fun (h65 : (↑j : Int) < 0) => ?_) (fun (h65 : ¬ (↑j : Int) < 0) => ?_)
                                              · exfalso; omega
                                              · refine ex_st 4 (pc' := 77) (ls' := [(0, xr 143), (1, xi (↑n)), (2, xi (↑i)), (3, xi (↑q)), (4, xi (↑j)), (5, xi (↑m))]) (st' := [xi (↑n), xr 192, xi (↑i)]) rfl ?_
                                                refine ex_iald (j := n) rfl (by decide) (rfl : xSH[192]? = some _) (by omega) (by omega) (by decide) ?_
                                                refine ex_st 2 (pc' := 81) (ls' := [(0, xr 143), (1, xi (↑n)), (2, xi (↑i)), (3, xi (↑q)), (4, xi (↑j)), (5, xi (↑m))]) (st' := [xi ((I 192 n) - (↑m)), xi (↑i)]) rfl ?_
                                                refine ex_ic rfl (by first | omega | (constructor <;> omega) | assumption) (by first | omega | (constructor <;> omega) | assumption) (fun (h66 : ((I 192 n) - (↑m)) < (↑i : Int)) => ?_) (fun (h66 : ¬ ((I 192 n) - (↑m)) < (↑i : Int)) => ?_)
                                                · exfalso; omega
                                                · refine ex_st 4 (pc' := 91) (ls' := [(0, xr 143), (1, xi (↑n)), (2, xi (↑i)), (3, xi (↑q)), (4, xi (↑j)), (5, xi (↑m))]) (st' := [xi (↑q), xr 192, xi (↑j)]) rfl ?_
                                                  refine ex_iald (j := q) rfl (by decide) (rfl : xSH[192]? = some _) (by omega) (by omega) (by decide) ?_
                                                  refine ex_st 2 (pc' := 95) (ls' := [(0, xr 143), (1, xi (↑n)), (2, xi (↑i)), (3, xi (↑q)), (4, xi (↑j)), (5, xi (↑m))]) (st' := [xi ((I 192 q) - (↑m)), xi (↑j)]) rfl ?_
                                                  refine ex_ic rfl (by first | omega | (constructor <;> omega) | assumption) (by first | omega | (constructor <;> omega) | assumption) (fun (h67 : (↑j : Int) ≤ ((I 192 q) - (↑m))) => ?_) (fun (h67 : ¬ (↑j : Int) ≤ ((I 192 q) - (↑m))) => ?_)
                                                  · refine ex_st 2 (pc' := 104) (ls' := [(6, xi 0), (0, xr 143), (1, xi (↑n)), (2, xi (↑i)), (3, xi (↑q)), (4, xi (↑j)), (5, xi (↑m))]) (st' := []) rfl ?_
                                                    generalize hL : x_cpL L (131 + 2 * n + 1) i (131 + 2 * q + 1) j m = L1
                                                    refine lp_sh1 (by omega) (by omega) 0 (by omega) _ (fun L2 hA1 hA2 hA3 => ?_)
                                                    refine ex_st 2 (pc' := 141) (ls' := [(6, xi 0), (0, xr 143), (1, xi (↑n)), (2, xi (↑i)), (3, xi (↑q)), (4, xi (↑j)), (5, xi (↑m))]) (st' := []) rfl ?_
                                                    refine lp_sh2 (by omega) (by omega) 0 (by omega) _ (fun L3 hB1 hB2 => ?_)
                                                    refine ⟨x_req (by first | rfl | omega), _, _, rfl, hR.1, hR.2.1, hT, hX, hC, hH, ?_⟩
                                                    intro p hp
                                                    obtain ⟨z1, z2, z3, z4, z5, z6, z7, z8⟩ := hQ p hp
                                                    refine ⟨z1, z2, z3, z4, z5, z6, z7, fun y hy => ?_⟩
                                                    by_cases e : p = q ∧ j ≤ y ∧ y < j + m
                                                    · obtain ⟨rfl, e1, e2⟩ := e
                                                      have hb := hB1 (y - j) (by omega) (by omega)
                                                      rw [show 60 * p + j + (y - j) = 60 * p + y by omega] at hb
                                                      rw [hb, hA1 (y - j) (by omega) (by omega), hB2 _ _ (by omega), hA2 _ _ (by omega), ← hL, x_cpL_in ⟨rfl, e1, e2⟩, x_cpL_far (by omega), show 60 * n + i + (y - j) = 60 * n + (i + (y - j)) by omega]
                                                      exact hq.2.2.2.2.2.2.2 _ (by omega)
                                                    · rw [hB2 _ _ (by omega), hB2 _ _ (by omega), hA2 _ _ (by omega), hA2 _ _ (by omega), ← hL, x_cpL_far (by omega), x_cpL_far (by omega)]; exact z8 y hy
                                                  · exfalso; omega
                                        · exfalso; omega
                                      · exfalso; omega
                                  · exfalso; omega
              · refine ex_st 1 (pc' := 66) (ls' := [(7, xr (131 + 2 * q)), (6, xr (131 + 2 * n)), (0, xr 0), (1, xi (↑n)), (2, xi (↑i)), (3, xi (↑q)), (4, xi (↑j)), (5, xi (↑m))]) (st' := [xi (-12)]) rfl ?_
                refine ex_reti rfl rfl ?_
                refine x_CQ.of (M := xM_m_shift) rfl (Nat.le_of_ble_eq_true rfl) ?_
                refine ex_st 2 (pc' := 2) (ls' := [(0, xr 143), (1, xi (↑n)), (2, xi (↑i)), (3, xi (↑q)), (4, xi (↑j)), (5, xi (↑m))]) (st' := [xi (↑n), xr 143]) rfl ?_
                refine ex_call (ct_m_isTape (by first | omega | (constructor <;> omega) | assumption)) (by decide) rfl ⟨rfl, rfl, rfl⟩ ⟨Nat.le_of_ble_eq_true rfl, rfl, rfl⟩ (Nat.le_of_ble_eq_true rfl) rfl ?_
                refine ex_beq rfl (fun h68 => ?_) (fun h68 => ?_)
                · exfalso; omega
                · refine ex_st 2 (pc' := 10) (ls' := [(0, xr 143), (1, xi (↑n)), (2, xi (↑i)), (3, xi (↑q)), (4, xi (↑j)), (5, xi (↑m))]) (st' := [xi (↑q), xr 143]) rfl ?_
                  refine ex_call (ct_m_isTape (by first | omega | (constructor <;> omega) | assumption)) (by decide) rfl ⟨rfl, rfl, rfl⟩ ⟨Nat.le_of_ble_eq_true rfl, rfl, rfl⟩ (Nat.le_of_ble_eq_true rfl) rfl ?_
                  refine ex_bne rfl (fun h69 => ?_) (fun h69 => ?_)
                  · refine ex_st 3 (pc' := 23) (ls' := [(0, xr 143), (1, xi (↑n)), (2, xi (↑i)), (3, xi (↑q)), (4, xi (↑j)), (5, xi (↑m))]) (st' := [xi (↑n), xr 191]) rfl ?_
                    refine ex_iald (j := n) rfl (by decide) (rfl : xSH[191]? = some _) (by omega) (by omega) (by decide) ?_
                    refine ex_if rfl (by first | omega | (constructor <;> omega) | assumption) (fun (h70 : (I 191 n) < 0) => ?_) (fun (h70 : ¬ (I 191 n) < 0) => ?_)
                    · exfalso; omega
                    · refine ex_st 3 (pc' := 32) (ls' := [(0, xr 143), (1, xi (↑n)), (2, xi (↑i)), (3, xi (↑q)), (4, xi (↑j)), (5, xi (↑m))]) (st' := [xi (↑q), xr 191]) rfl ?_
                      refine ex_iald (j := q) rfl (by decide) (rfl : xSH[191]? = some _) (by omega) (by omega) (by decide) ?_
                      refine ex_if rfl (by first | omega | (constructor <;> omega) | assumption) (fun (h71 : ((0 : Int)) ≤ (I 191 q)) => ?_) (fun (h71 : ¬ ((0 : Int)) ≤ (I 191 q)) => ?_)
                      · refine ex_st 3 (pc' := 44) (ls' := [(0, xr 143), (1, xi (↑n)), (2, xi (↑i)), (3, xi (↑q)), (4, xi (↑j)), (5, xi (↑m))]) (st' := [xi (↑n), xr 191]) rfl ?_
                        refine ex_iald (j := n) rfl (by decide) (rfl : xSH[191]? = some _) (by omega) (by omega) (by decide) ?_
                        refine ex_st 3 (pc' := 50) (ls' := [(0, xr 143), (1, xi (↑n)), (2, xi (↑i)), (3, xi (↑q)), (4, xi (↑j)), (5, xi (↑m))]) (st' := [xi (↑q), xr 191, xi (I 191 n)]) rfl ?_
                        refine ex_iald (j := q) rfl (by decide) (rfl : xSH[191]? = some _) (by omega) (by omega) (by decide) ?_
                        refine ex_ic rfl (by first | omega | (constructor <;> omega) | assumption) (by first | omega | (constructor <;> omega) | assumption) (fun (h72 : (I 191 n) = (I 191 q)) => ?_) (fun (h72 : ¬ (I 191 n) = (I 191 q)) => ?_)
                        · exfalso; omega
                        · refine ex_st 1 (pc' := 56) (ls' := [(0, xr 143), (1, xi (↑n)), (2, xi (↑i)), (3, xi (↑q)), (4, xi (↑j)), (5, xi (↑m))]) (st' := [xi (-12)]) rfl ?_
                          refine ex_reti rfl rfl ?_
                          exact ⟨x_req (by first | rfl | omega), _, _, rfl, hR⟩
                      · exfalso; omega
                  · exfalso; omega
        · exfalso; omega
    refine x_CQ.of (M := xM_G_shift) rfl (Nat.le_of_ble_eq_true rfl) ?_
    refine ex_st 1 (pc' := 1) (ls' := [(0, xr 0), (1, xi (↑n)), (2, xi i), (3, xi (↑q)), (4, xi j), (5, xi m)]) (st' := [xi (↑n)]) rfl ?_
    refine ex_call (ct_G_isTape (by first | omega | (constructor <;> omega) | assumption)) (by decide) rfl ⟨rfl, rfl, rfl⟩ ⟨Nat.le_of_ble_eq_true rfl, rfl, rfl⟩ (Nat.le_of_ble_eq_true rfl) rfl ?_
    refine ex_beq rfl (fun h0 => ?_) (fun h0 => ?_)
    · exfalso; omega
    · refine ex_st 1 (pc' := 8) (ls' := [(0, xr 0), (1, xi (↑n)), (2, xi i), (3, xi (↑q)), (4, xi j), (5, xi m)]) (st' := [xi (↑q)]) rfl ?_
      refine ex_call (ct_G_isTape (by first | omega | (constructor <;> omega) | assumption)) (by decide) rfl ⟨rfl, rfl, rfl⟩ ⟨Nat.le_of_ble_eq_true rfl, rfl, rfl⟩ (Nat.le_of_ble_eq_true rfl) rfl ?_
      refine ex_bne rfl (fun h1 => ?_) (fun h1 => ?_)
      · refine ex_st 3 (pc' := 21) (ls' := [(0, xr 0), (1, xi (↑n)), (2, xi i), (3, xi (↑q)), (4, xi j), (5, xi m)]) (st' := [xi (↑n), xr 106]) rfl ?_
        refine ex_aald (q := 131 + 2 * n) (j := n) rfl (by decide) (rfl : xSH[106]? = some _) (by decide) (by omega) (by omega) (by decide) (x_aa106 n (by omega)) (by omega) ?_
        refine ex_st 4 (pc' := 29) (ls' := [(6, xr (131 + 2 * n)), (0, xr 0), (1, xi (↑n)), (2, xi i), (3, xi (↑q)), (4, xi j), (5, xi m)]) (st' := [xi (↑q), xr 106]) rfl ?_
        refine ex_aald (q := 131 + 2 * q) (j := q) rfl (by decide) (rfl : xSH[106]? = some _) (by decide) (by omega) (by omega) (by decide) (x_aa106 q (by omega)) (by omega) ?_
        refine ex_st 2 (pc' := 34) (ls' := [(7, xr (131 + 2 * q)), (6, xr (131 + 2 * n)), (0, xr 0), (1, xi (↑n)), (2, xi i), (3, xi (↑q)), (4, xi j), (5, xi m)]) (st' := [xr (131 + 2 * n)]) rfl ?_
        refine ex_inl (M' := xM_Tp_holds) (as := [xr (131 + 2 * n)]) (rest := []) (D' := 28) rfl (Nat.le_of_ble_eq_true rfl) (by decide) rfl ⟨rfl, rfl, rfl⟩ ⟨Nat.le_of_ble_eq_true rfl, rfl, rfl⟩ (Nat.le_of_ble_eq_true rfl) (x_recv_v (by omega) (x_tsh n (by omega)).1 (by decide)) ?_
        refine ex_st 1 (pc' := 1) (ls' := [(0, xr (131 + 2 * n))]) (st' := [xr (131 + 2 * n)]) rfl ?_
        refine ex_gfi rfl (by omega) (x_tsh n (by omega)).1 (by decide) (by decide) rfl ?_
        refine ex_st 1 (pc' := 5) (ls' := [(0, xr (131 + 2 * n))]) (st' := [xi (-1), xi (I (131 + 2 * n) 0)]) rfl ?_
        refine ex_ic rfl (by first | omega | (constructor <;> omega) | assumption) (by decide) (fun (h2 : (I (131 + 2 * n) 0) = (-1)) => ?_) (fun (h2 : ¬ (I (131 + 2 * n) 0) = (-1)) => ?_)
        · refine ex_st 1 (pc' := 13) (ls' := [(0, xr (131 + 2 * n))]) (st' := [xi 0]) rfl ?_
          refine ex_retz rfl (Or.inl rfl) rfl ?_
          refine ex_st 1 (pc' := 48) (ls' := [(7, xr (131 + 2 * q)), (6, xr (131 + 2 * n)), (0, xr 0), (1, xi (↑n)), (2, xi i), (3, xi (↑q)), (4, xi j), (5, xi m)]) (st' := []) rfl ?_
          refine ex_st 1 (pc' := 50) (ls' := [(7, xr (131 + 2 * q)), (6, xr (131 + 2 * n)), (0, xr 0), (1, xi (↑n)), (2, xi i), (3, xi (↑q)), (4, xi j), (5, xi m)]) (st' := [xi (-11)]) rfl ?_
          refine ex_reti rfl rfl ?_
          refine x_CQ.of (M := xM_m_shift) rfl (Nat.le_of_ble_eq_true rfl) ?_
          refine ex_st 2 (pc' := 2) (ls' := [(0, xr 143), (1, xi (↑n)), (2, xi i), (3, xi (↑q)), (4, xi j), (5, xi m)]) (st' := [xi (↑n), xr 143]) rfl ?_
          refine ex_call (ct_m_isTape (by first | omega | (constructor <;> omega) | assumption)) (by decide) rfl ⟨rfl, rfl, rfl⟩ ⟨Nat.le_of_ble_eq_true rfl, rfl, rfl⟩ (Nat.le_of_ble_eq_true rfl) rfl ?_
          refine ex_beq rfl (fun h3 => ?_) (fun h3 => ?_)
          · exfalso; omega
          · refine ex_st 2 (pc' := 10) (ls' := [(0, xr 143), (1, xi (↑n)), (2, xi i), (3, xi (↑q)), (4, xi j), (5, xi m)]) (st' := [xi (↑q), xr 143]) rfl ?_
            refine ex_call (ct_m_isTape (by first | omega | (constructor <;> omega) | assumption)) (by decide) rfl ⟨rfl, rfl, rfl⟩ ⟨Nat.le_of_ble_eq_true rfl, rfl, rfl⟩ (Nat.le_of_ble_eq_true rfl) rfl ?_
            refine ex_bne rfl (fun h4 => ?_) (fun h4 => ?_)
            · refine ex_st 3 (pc' := 23) (ls' := [(0, xr 143), (1, xi (↑n)), (2, xi i), (3, xi (↑q)), (4, xi j), (5, xi m)]) (st' := [xi (↑n), xr 191]) rfl ?_
              refine ex_iald (j := n) rfl (by decide) (rfl : xSH[191]? = some _) (by omega) (by omega) (by decide) ?_
              refine ex_if rfl (by first | omega | (constructor <;> omega) | assumption) (fun (h5 : (I 191 n) < 0) => ?_) (fun (h5 : ¬ (I 191 n) < 0) => ?_)
              · refine ex_st 1 (pc' := 38) (ls' := [(0, xr 143), (1, xi (↑n)), (2, xi i), (3, xi (↑q)), (4, xi j), (5, xi m)]) (st' := [xi (-11)]) rfl ?_
                refine ex_reti rfl rfl ?_
                exact ⟨x_req (by first | rfl | omega), _, _, rfl, hR⟩
              · exfalso; omega
            · exfalso; omega
        · refine ex_st 2 (pc' := 13) (ls' := [(0, xr (131 + 2 * n))]) (st' := [xi 1]) rfl ?_
          refine ex_retz rfl (Or.inr rfl) rfl ?_
          refine ex_st 1 (pc' := 40) (ls' := [(7, xr (131 + 2 * q)), (6, xr (131 + 2 * n)), (0, xr 0), (1, xi (↑n)), (2, xi i), (3, xi (↑q)), (4, xi j), (5, xi m)]) (st' := []) rfl ?_
          refine ex_st 1 (pc' := 42) (ls' := [(7, xr (131 + 2 * q)), (6, xr (131 + 2 * n)), (0, xr 0), (1, xi (↑n)), (2, xi i), (3, xi (↑q)), (4, xi j), (5, xi m)]) (st' := [xr (131 + 2 * q)]) rfl ?_
          refine ex_inl (M' := xM_Tp_holds) (as := [xr (131 + 2 * q)]) (rest := []) (D' := 28) rfl (Nat.le_of_ble_eq_true rfl) (by decide) rfl ⟨rfl, rfl, rfl⟩ ⟨Nat.le_of_ble_eq_true rfl, rfl, rfl⟩ (Nat.le_of_ble_eq_true rfl) (x_recv_v (by omega) (x_tsh q (by omega)).1 (by decide)) ?_
          refine ex_st 1 (pc' := 1) (ls' := [(0, xr (131 + 2 * q))]) (st' := [xr (131 + 2 * q)]) rfl ?_
          refine ex_gfi rfl (by omega) (x_tsh q (by omega)).1 (by decide) (by decide) rfl ?_
          refine ex_st 1 (pc' := 5) (ls' := [(0, xr (131 + 2 * q))]) (st' := [xi (-1), xi (I (131 + 2 * q) 0)]) rfl ?_
          refine ex_ic rfl (by first | omega | (constructor <;> omega) | assumption) (by decide) (fun (h6 : (I (131 + 2 * q) 0) = (-1)) => ?_) (fun (h6 : ¬ (I (131 + 2 * q) 0) = (-1)) => ?_)
          · refine ex_st 1 (pc' := 13) (ls' := [(0, xr (131 + 2 * q))]) (st' := [xi 0]) rfl ?_
            refine ex_retz rfl (Or.inl rfl) rfl ?_
            refine ex_st 1 (pc' := 48) (ls' := [(7, xr (131 + 2 * q)), (6, xr (131 + 2 * n)), (0, xr 0), (1, xi (↑n)), (2, xi i), (3, xi (↑q)), (4, xi j), (5, xi m)]) (st' := []) rfl ?_
            refine ex_st 1 (pc' := 50) (ls' := [(7, xr (131 + 2 * q)), (6, xr (131 + 2 * n)), (0, xr 0), (1, xi (↑n)), (2, xi i), (3, xi (↑q)), (4, xi j), (5, xi m)]) (st' := [xi (-11)]) rfl ?_
            refine ex_reti rfl rfl ?_
            refine x_CQ.of (M := xM_m_shift) rfl (Nat.le_of_ble_eq_true rfl) ?_
            refine ex_st 2 (pc' := 2) (ls' := [(0, xr 143), (1, xi (↑n)), (2, xi i), (3, xi (↑q)), (4, xi j), (5, xi m)]) (st' := [xi (↑n), xr 143]) rfl ?_
            refine ex_call (ct_m_isTape (by first | omega | (constructor <;> omega) | assumption)) (by decide) rfl ⟨rfl, rfl, rfl⟩ ⟨Nat.le_of_ble_eq_true rfl, rfl, rfl⟩ (Nat.le_of_ble_eq_true rfl) rfl ?_
            refine ex_beq rfl (fun h7 => ?_) (fun h7 => ?_)
            · exfalso; omega
            · refine ex_st 2 (pc' := 10) (ls' := [(0, xr 143), (1, xi (↑n)), (2, xi i), (3, xi (↑q)), (4, xi j), (5, xi m)]) (st' := [xi (↑q), xr 143]) rfl ?_
              refine ex_call (ct_m_isTape (by first | omega | (constructor <;> omega) | assumption)) (by decide) rfl ⟨rfl, rfl, rfl⟩ ⟨Nat.le_of_ble_eq_true rfl, rfl, rfl⟩ (Nat.le_of_ble_eq_true rfl) rfl ?_
              refine ex_bne rfl (fun h8 => ?_) (fun h8 => ?_)
              · refine ex_st 3 (pc' := 23) (ls' := [(0, xr 143), (1, xi (↑n)), (2, xi i), (3, xi (↑q)), (4, xi j), (5, xi m)]) (st' := [xi (↑n), xr 191]) rfl ?_
                refine ex_iald (j := n) rfl (by decide) (rfl : xSH[191]? = some _) (by omega) (by omega) (by decide) ?_
                refine ex_if rfl (by first | omega | (constructor <;> omega) | assumption) (fun (h9 : (I 191 n) < 0) => ?_) (fun (h9 : ¬ (I 191 n) < 0) => ?_)
                · exfalso; omega
                · refine ex_st 3 (pc' := 32) (ls' := [(0, xr 143), (1, xi (↑n)), (2, xi i), (3, xi (↑q)), (4, xi j), (5, xi m)]) (st' := [xi (↑q), xr 191]) rfl ?_
                  refine ex_iald (j := q) rfl (by decide) (rfl : xSH[191]? = some _) (by omega) (by omega) (by decide) ?_
                  refine ex_if rfl (by first | omega | (constructor <;> omega) | assumption) (fun (h10 : ((0 : Int)) ≤ (I 191 q)) => ?_) (fun (h10 : ¬ ((0 : Int)) ≤ (I 191 q)) => ?_)
                  · exfalso; omega
                  · refine ex_st 1 (pc' := 38) (ls' := [(0, xr 143), (1, xi (↑n)), (2, xi i), (3, xi (↑q)), (4, xi j), (5, xi m)]) (st' := [xi (-11)]) rfl ?_
                    refine ex_reti rfl rfl ?_
                    exact ⟨x_req (by first | rfl | omega), _, _, rfl, hR⟩
              · exfalso; omega
          · refine ex_st 2 (pc' := 13) (ls' := [(0, xr (131 + 2 * q))]) (st' := [xi 1]) rfl ?_
            refine ex_retz rfl (Or.inr rfl) rfl ?_
            refine ex_st 1 (pc' := 51) (ls' := [(7, xr (131 + 2 * q)), (6, xr (131 + 2 * n)), (0, xr 0), (1, xi (↑n)), (2, xi i), (3, xi (↑q)), (4, xi j), (5, xi m)]) (st' := []) rfl ?_
            refine ex_st 1 (pc' := 53) (ls' := [(7, xr (131 + 2 * q)), (6, xr (131 + 2 * n)), (0, xr 0), (1, xi (↑n)), (2, xi i), (3, xi (↑q)), (4, xi j), (5, xi m)]) (st' := [xr (131 + 2 * n)]) rfl ?_
            refine ex_gfi rfl (by omega) (x_tsh n (by omega)).1 (by decide) (by decide) rfl ?_
            refine ex_st 1 (pc' := 58) (ls' := [(7, xr (131 + 2 * q)), (6, xr (131 + 2 * n)), (0, xr 0), (1, xi (↑n)), (2, xi i), (3, xi (↑q)), (4, xi j), (5, xi m)]) (st' := [xr (131 + 2 * q), xi (I (131 + 2 * n) 0)]) rfl ?_
            refine ex_gfi rfl (by omega) (x_tsh q (by omega)).1 (by decide) (by decide) rfl ?_
            refine ex_ic rfl (by first | omega | (constructor <;> omega) | assumption) (by first | omega | (constructor <;> omega) | assumption) (fun (h11 : (I (131 + 2 * n) 0) = (I (131 + 2 * q) 0)) => ?_) (fun (h11 : ¬ (I (131 + 2 * n) 0) = (I (131 + 2 * q) 0)) => ?_)
            · refine ex_st 3 (pc' := 72) (ls' := [(7, xr (131 + 2 * q)), (6, xr (131 + 2 * n)), (0, xr 0), (1, xi (↑n)), (2, xi i), (3, xi (↑q)), (4, xi j), (5, xi m)]) (st' := [xi m, xi i, xr (131 + 2 * n)]) rfl ?_
              refine ex_inl (M' := xM_Tp_hasPlaces) (as := [xr (131 + 2 * n), xi i, xi m]) (rest := []) (D' := 28) rfl (Nat.le_of_ble_eq_true rfl) (by decide) rfl ⟨rfl, rfl, rfl⟩ ⟨Nat.le_of_ble_eq_true rfl, rfl, rfl⟩ (Nat.le_of_ble_eq_true rfl) (x_recv_v (by omega) (x_tsh n (by omega)).1 (by decide)) ?_
              refine ex_st 1 (pc' := 1) (ls' := [(0, xr (131 + 2 * n)), (1, xi i), (2, xi m)]) (st' := [xi i]) rfl ?_
              refine ex_if rfl (by first | omega | (constructor <;> omega) | assumption) (fun (h12 : i < 0) => ?_) (fun (h12 : ¬ i < 0) => ?_)
              · refine ex_st 1 (pc' := 31) (ls' := [(0, xr (131 + 2 * n)), (1, xi i), (2, xi m)]) (st' := [xi 0]) rfl ?_
                refine ex_retz rfl (Or.inl rfl) rfl ?_
                refine ex_st 1 (pc' := 90) (ls' := [(7, xr (131 + 2 * q)), (6, xr (131 + 2 * n)), (0, xr 0), (1, xi (↑n)), (2, xi i), (3, xi (↑q)), (4, xi j), (5, xi m)]) (st' := []) rfl ?_
                refine ex_st 1 (pc' := 92) (ls' := [(7, xr (131 + 2 * q)), (6, xr (131 + 2 * n)), (0, xr 0), (1, xi (↑n)), (2, xi i), (3, xi (↑q)), (4, xi j), (5, xi m)]) (st' := [xi (-13)]) rfl ?_
                refine ex_reti rfl rfl ?_
                refine x_CQ.of (M := xM_m_shift) rfl (Nat.le_of_ble_eq_true rfl) ?_
                refine ex_st 2 (pc' := 2) (ls' := [(0, xr 143), (1, xi (↑n)), (2, xi i), (3, xi (↑q)), (4, xi j), (5, xi m)]) (st' := [xi (↑n), xr 143]) rfl ?_
                refine ex_call (ct_m_isTape (by first | omega | (constructor <;> omega) | assumption)) (by decide) rfl ⟨rfl, rfl, rfl⟩ ⟨Nat.le_of_ble_eq_true rfl, rfl, rfl⟩ (Nat.le_of_ble_eq_true rfl) rfl ?_
                refine ex_beq rfl (fun h13 => ?_) (fun h13 => ?_)
                · exfalso; omega
                · refine ex_st 2 (pc' := 10) (ls' := [(0, xr 143), (1, xi (↑n)), (2, xi i), (3, xi (↑q)), (4, xi j), (5, xi m)]) (st' := [xi (↑q), xr 143]) rfl ?_
                  refine ex_call (ct_m_isTape (by first | omega | (constructor <;> omega) | assumption)) (by decide) rfl ⟨rfl, rfl, rfl⟩ ⟨Nat.le_of_ble_eq_true rfl, rfl, rfl⟩ (Nat.le_of_ble_eq_true rfl) rfl ?_
                  refine ex_bne rfl (fun h14 => ?_) (fun h14 => ?_)
                  · refine ex_st 3 (pc' := 23) (ls' := [(0, xr 143), (1, xi (↑n)), (2, xi i), (3, xi (↑q)), (4, xi j), (5, xi m)]) (st' := [xi (↑n), xr 191]) rfl ?_
                    refine ex_iald (j := n) rfl (by decide) (rfl : xSH[191]? = some _) (by omega) (by omega) (by decide) ?_
                    refine ex_if rfl (by first | omega | (constructor <;> omega) | assumption) (fun (h15 : (I 191 n) < 0) => ?_) (fun (h15 : ¬ (I 191 n) < 0) => ?_)
                    · exfalso; omega
                    · refine ex_st 3 (pc' := 32) (ls' := [(0, xr 143), (1, xi (↑n)), (2, xi i), (3, xi (↑q)), (4, xi j), (5, xi m)]) (st' := [xi (↑q), xr 191]) rfl ?_
                      refine ex_iald (j := q) rfl (by decide) (rfl : xSH[191]? = some _) (by omega) (by omega) (by decide) ?_
                      refine ex_if rfl (by first | omega | (constructor <;> omega) | assumption) (fun (h16 : ((0 : Int)) ≤ (I 191 q)) => ?_) (fun (h16 : ¬ ((0 : Int)) ≤ (I 191 q)) => ?_)
                      · refine ex_st 3 (pc' := 44) (ls' := [(0, xr 143), (1, xi (↑n)), (2, xi i), (3, xi (↑q)), (4, xi j), (5, xi m)]) (st' := [xi (↑n), xr 191]) rfl ?_
                        refine ex_iald (j := n) rfl (by decide) (rfl : xSH[191]? = some _) (by omega) (by omega) (by decide) ?_
                        refine ex_st 3 (pc' := 50) (ls' := [(0, xr 143), (1, xi (↑n)), (2, xi i), (3, xi (↑q)), (4, xi j), (5, xi m)]) (st' := [xi (↑q), xr 191, xi (I 191 n)]) rfl ?_
                        refine ex_iald (j := q) rfl (by decide) (rfl : xSH[191]? = some _) (by omega) (by omega) (by decide) ?_
                        refine ex_ic rfl (by first | omega | (constructor <;> omega) | assumption) (by first | omega | (constructor <;> omega) | assumption) (fun (h17 : (I 191 n) = (I 191 q)) => ?_) (fun (h17 : ¬ (I 191 n) = (I 191 q)) => ?_)
                        · refine ex_st 1 (pc' := 59) (ls' := [(0, xr 143), (1, xi (↑n)), (2, xi i), (3, xi (↑q)), (4, xi j), (5, xi m)]) (st' := [xi m]) rfl ?_
                          refine ex_if rfl (by first | omega | (constructor <;> omega) | assumption) (fun (h18 : m < 0) => ?_) (fun (h18 : ¬ m < 0) => ?_)
                          · refine ex_st 1 (pc' := 100) (ls' := [(0, xr 143), (1, xi (↑n)), (2, xi i), (3, xi (↑q)), (4, xi j), (5, xi m)]) (st' := [xi (-13)]) rfl ?_
                            refine ex_reti rfl rfl ?_
                            exact ⟨x_req (by first | rfl | omega), _, _, rfl, hR⟩
                          · refine ex_st 1 (pc' := 63) (ls' := [(0, xr 143), (1, xi (↑n)), (2, xi i), (3, xi (↑q)), (4, xi j), (5, xi m)]) (st' := [xi i]) rfl ?_
                            refine ex_if rfl (by first | omega | (constructor <;> omega) | assumption) (fun (h19 : i < 0) => ?_) (fun (h19 : ¬ i < 0) => ?_)
                            · refine ex_st 1 (pc' := 100) (ls' := [(0, xr 143), (1, xi (↑n)), (2, xi i), (3, xi (↑q)), (4, xi j), (5, xi m)]) (st' := [xi (-13)]) rfl ?_
                              refine ex_reti rfl rfl ?_
                              exact ⟨x_req (by first | rfl | omega), _, _, rfl, hR⟩
                            · exfalso; omega
                        · exfalso; omega
                      · exfalso; omega
                  · exfalso; omega
              · refine ex_st 1 (pc' := 5) (ls' := [(0, xr (131 + 2 * n)), (1, xi i), (2, xi m)]) (st' := [xi m]) rfl ?_
                refine ex_if rfl (by first | omega | (constructor <;> omega) | assumption) (fun (h20 : m < 0) => ?_) (fun (h20 : ¬ m < 0) => ?_)
                · refine ex_st 1 (pc' := 31) (ls' := [(0, xr (131 + 2 * n)), (1, xi i), (2, xi m)]) (st' := [xi 0]) rfl ?_
                  refine ex_retz rfl (Or.inl rfl) rfl ?_
                  refine ex_st 1 (pc' := 90) (ls' := [(7, xr (131 + 2 * q)), (6, xr (131 + 2 * n)), (0, xr 0), (1, xi (↑n)), (2, xi i), (3, xi (↑q)), (4, xi j), (5, xi m)]) (st' := []) rfl ?_
                  refine ex_st 1 (pc' := 92) (ls' := [(7, xr (131 + 2 * q)), (6, xr (131 + 2 * n)), (0, xr 0), (1, xi (↑n)), (2, xi i), (3, xi (↑q)), (4, xi j), (5, xi m)]) (st' := [xi (-13)]) rfl ?_
                  refine ex_reti rfl rfl ?_
                  refine x_CQ.of (M := xM_m_shift) rfl (Nat.le_of_ble_eq_true rfl) ?_
                  refine ex_st 2 (pc' := 2) (ls' := [(0, xr 143), (1, xi (↑n)), (2, xi i), (3, xi (↑q)), (4, xi j), (5, xi m)]) (st' := [xi (↑n), xr 143]) rfl ?_
                  refine ex_call (ct_m_isTape (by first | omega | (constructor <;> omega) | assumption)) (by decide) rfl ⟨rfl, rfl, rfl⟩ ⟨Nat.le_of_ble_eq_true rfl, rfl, rfl⟩ (Nat.le_of_ble_eq_true rfl) rfl ?_
                  refine ex_beq rfl (fun h21 => ?_) (fun h21 => ?_)
                  · exfalso; omega
                  · refine ex_st 2 (pc' := 10) (ls' := [(0, xr 143), (1, xi (↑n)), (2, xi i), (3, xi (↑q)), (4, xi j), (5, xi m)]) (st' := [xi (↑q), xr 143]) rfl ?_
                    refine ex_call (ct_m_isTape (by first | omega | (constructor <;> omega) | assumption)) (by decide) rfl ⟨rfl, rfl, rfl⟩ ⟨Nat.le_of_ble_eq_true rfl, rfl, rfl⟩ (Nat.le_of_ble_eq_true rfl) rfl ?_
                    refine ex_bne rfl (fun h22 => ?_) (fun h22 => ?_)
                    · refine ex_st 3 (pc' := 23) (ls' := [(0, xr 143), (1, xi (↑n)), (2, xi i), (3, xi (↑q)), (4, xi j), (5, xi m)]) (st' := [xi (↑n), xr 191]) rfl ?_
                      refine ex_iald (j := n) rfl (by decide) (rfl : xSH[191]? = some _) (by omega) (by omega) (by decide) ?_
                      refine ex_if rfl (by first | omega | (constructor <;> omega) | assumption) (fun (h23 : (I 191 n) < 0) => ?_) (fun (h23 : ¬ (I 191 n) < 0) => ?_)
                      · exfalso; omega
                      · refine ex_st 3 (pc' := 32) (ls' := [(0, xr 143), (1, xi (↑n)), (2, xi i), (3, xi (↑q)), (4, xi j), (5, xi m)]) (st' := [xi (↑q), xr 191]) rfl ?_
                        refine ex_iald (j := q) rfl (by decide) (rfl : xSH[191]? = some _) (by omega) (by omega) (by decide) ?_
                        refine ex_if rfl (by first | omega | (constructor <;> omega) | assumption) (fun (h24 : ((0 : Int)) ≤ (I 191 q)) => ?_) (fun (h24 : ¬ ((0 : Int)) ≤ (I 191 q)) => ?_)
                        · refine ex_st 3 (pc' := 44) (ls' := [(0, xr 143), (1, xi (↑n)), (2, xi i), (3, xi (↑q)), (4, xi j), (5, xi m)]) (st' := [xi (↑n), xr 191]) rfl ?_
                          refine ex_iald (j := n) rfl (by decide) (rfl : xSH[191]? = some _) (by omega) (by omega) (by decide) ?_
                          refine ex_st 3 (pc' := 50) (ls' := [(0, xr 143), (1, xi (↑n)), (2, xi i), (3, xi (↑q)), (4, xi j), (5, xi m)]) (st' := [xi (↑q), xr 191, xi (I 191 n)]) rfl ?_
                          refine ex_iald (j := q) rfl (by decide) (rfl : xSH[191]? = some _) (by omega) (by omega) (by decide) ?_
                          refine ex_ic rfl (by first | omega | (constructor <;> omega) | assumption) (by first | omega | (constructor <;> omega) | assumption) (fun (h25 : (I 191 n) = (I 191 q)) => ?_) (fun (h25 : ¬ (I 191 n) = (I 191 q)) => ?_)
                          · refine ex_st 1 (pc' := 59) (ls' := [(0, xr 143), (1, xi (↑n)), (2, xi i), (3, xi (↑q)), (4, xi j), (5, xi m)]) (st' := [xi m]) rfl ?_
                            refine ex_if rfl (by first | omega | (constructor <;> omega) | assumption) (fun (h26 : m < 0) => ?_) (fun (h26 : ¬ m < 0) => ?_)
                            · refine ex_st 1 (pc' := 100) (ls' := [(0, xr 143), (1, xi (↑n)), (2, xi i), (3, xi (↑q)), (4, xi j), (5, xi m)]) (st' := [xi (-13)]) rfl ?_
                              refine ex_reti rfl rfl ?_
                              exact ⟨x_req (by first | rfl | omega), _, _, rfl, hR⟩
                            · exfalso; omega
                          · exfalso; omega
                        · exfalso; omega
                    · exfalso; omega
                · refine ex_st 2 (pc' := 10) (ls' := [(0, xr (131 + 2 * n)), (1, xi i), (2, xi m)]) (st' := [xr (131 + 2 * n), xi i]) rfl ?_
                  refine ex_gfi rfl (by omega) (x_tsh n (by omega)).1 (by decide) (by decide) rfl ?_
                  refine ex_ic rfl (by first | omega | (constructor <;> omega) | assumption) (by first | omega | (constructor <;> omega) | assumption) (fun (h27 : (I (131 + 2 * n) 1) < i) => ?_) (fun (h27 : ¬ (I (131 + 2 * n) 1) < i) => ?_)
                  · refine ex_st 1 (pc' := 31) (ls' := [(0, xr (131 + 2 * n)), (1, xi i), (2, xi m)]) (st' := [xi 0]) rfl ?_
                    refine ex_retz rfl (Or.inl rfl) rfl ?_
                    refine ex_st 1 (pc' := 90) (ls' := [(7, xr (131 + 2 * q)), (6, xr (131 + 2 * n)), (0, xr 0), (1, xi (↑n)), (2, xi i), (3, xi (↑q)), (4, xi j), (5, xi m)]) (st' := []) rfl ?_
                    refine ex_st 1 (pc' := 92) (ls' := [(7, xr (131 + 2 * q)), (6, xr (131 + 2 * n)), (0, xr 0), (1, xi (↑n)), (2, xi i), (3, xi (↑q)), (4, xi j), (5, xi m)]) (st' := [xi (-13)]) rfl ?_
                    refine ex_reti rfl rfl ?_
                    refine x_CQ.of (M := xM_m_shift) rfl (Nat.le_of_ble_eq_true rfl) ?_
                    refine ex_st 2 (pc' := 2) (ls' := [(0, xr 143), (1, xi (↑n)), (2, xi i), (3, xi (↑q)), (4, xi j), (5, xi m)]) (st' := [xi (↑n), xr 143]) rfl ?_
                    refine ex_call (ct_m_isTape (by first | omega | (constructor <;> omega) | assumption)) (by decide) rfl ⟨rfl, rfl, rfl⟩ ⟨Nat.le_of_ble_eq_true rfl, rfl, rfl⟩ (Nat.le_of_ble_eq_true rfl) rfl ?_
                    refine ex_beq rfl (fun h28 => ?_) (fun h28 => ?_)
                    · exfalso; omega
                    · refine ex_st 2 (pc' := 10) (ls' := [(0, xr 143), (1, xi (↑n)), (2, xi i), (3, xi (↑q)), (4, xi j), (5, xi m)]) (st' := [xi (↑q), xr 143]) rfl ?_
                      refine ex_call (ct_m_isTape (by first | omega | (constructor <;> omega) | assumption)) (by decide) rfl ⟨rfl, rfl, rfl⟩ ⟨Nat.le_of_ble_eq_true rfl, rfl, rfl⟩ (Nat.le_of_ble_eq_true rfl) rfl ?_
                      refine ex_bne rfl (fun h29 => ?_) (fun h29 => ?_)
                      · refine ex_st 3 (pc' := 23) (ls' := [(0, xr 143), (1, xi (↑n)), (2, xi i), (3, xi (↑q)), (4, xi j), (5, xi m)]) (st' := [xi (↑n), xr 191]) rfl ?_
                        refine ex_iald (j := n) rfl (by decide) (rfl : xSH[191]? = some _) (by omega) (by omega) (by decide) ?_
                        refine ex_if rfl (by first | omega | (constructor <;> omega) | assumption) (fun (h30 : (I 191 n) < 0) => ?_) (fun (h30 : ¬ (I 191 n) < 0) => ?_)
                        · exfalso; omega
                        · refine ex_st 3 (pc' := 32) (ls' := [(0, xr 143), (1, xi (↑n)), (2, xi i), (3, xi (↑q)), (4, xi j), (5, xi m)]) (st' := [xi (↑q), xr 191]) rfl ?_
                          refine ex_iald (j := q) rfl (by decide) (rfl : xSH[191]? = some _) (by omega) (by omega) (by decide) ?_
                          refine ex_if rfl (by first | omega | (constructor <;> omega) | assumption) (fun (h31 : ((0 : Int)) ≤ (I 191 q)) => ?_) (fun (h31 : ¬ ((0 : Int)) ≤ (I 191 q)) => ?_)
                          · refine ex_st 3 (pc' := 44) (ls' := [(0, xr 143), (1, xi (↑n)), (2, xi i), (3, xi (↑q)), (4, xi j), (5, xi m)]) (st' := [xi (↑n), xr 191]) rfl ?_
                            refine ex_iald (j := n) rfl (by decide) (rfl : xSH[191]? = some _) (by omega) (by omega) (by decide) ?_
                            refine ex_st 3 (pc' := 50) (ls' := [(0, xr 143), (1, xi (↑n)), (2, xi i), (3, xi (↑q)), (4, xi j), (5, xi m)]) (st' := [xi (↑q), xr 191, xi (I 191 n)]) rfl ?_
                            refine ex_iald (j := q) rfl (by decide) (rfl : xSH[191]? = some _) (by omega) (by omega) (by decide) ?_
                            refine ex_ic rfl (by first | omega | (constructor <;> omega) | assumption) (by first | omega | (constructor <;> omega) | assumption) (fun (h32 : (I 191 n) = (I 191 q)) => ?_) (fun (h32 : ¬ (I 191 n) = (I 191 q)) => ?_)
                            · refine ex_st 1 (pc' := 59) (ls' := [(0, xr 143), (1, xi (↑n)), (2, xi i), (3, xi (↑q)), (4, xi j), (5, xi m)]) (st' := [xi m]) rfl ?_
                              refine ex_if rfl (by first | omega | (constructor <;> omega) | assumption) (fun (h33 : m < 0) => ?_) (fun (h33 : ¬ m < 0) => ?_)
                              · exfalso; omega
                              · refine ex_st 1 (pc' := 63) (ls' := [(0, xr 143), (1, xi (↑n)), (2, xi i), (3, xi (↑q)), (4, xi j), (5, xi m)]) (st' := [xi i]) rfl ?_
                                refine ex_if rfl (by first | omega | (constructor <;> omega) | assumption) (fun (h34 : i < 0) => ?_) (fun (h34 : ¬ i < 0) => ?_)
                                · exfalso; omega
                                · refine ex_st 1 (pc' := 68) (ls' := [(0, xr 143), (1, xi (↑n)), (2, xi i), (3, xi (↑q)), (4, xi j), (5, xi m)]) (st' := [xi j]) rfl ?_
                                  refine ex_if rfl (by first | omega | (constructor <;> omega) | assumption) (fun (h35 : j < 0) => ?_) (fun (h35 : ¬ j < 0) => ?_)
                                  · refine ex_st 1 (pc' := 100) (ls' := [(0, xr 143), (1, xi (↑n)), (2, xi i), (3, xi (↑q)), (4, xi j), (5, xi m)]) (st' := [xi (-13)]) rfl ?_
                                    refine ex_reti rfl rfl ?_
                                    exact ⟨x_req (by first | rfl | omega), _, _, rfl, hR⟩
                                  · exfalso; omega
                            · exfalso; omega
                          · exfalso; omega
                      · exfalso; omega
                  · refine ex_st 2 (pc' := 18) (ls' := [(0, xr (131 + 2 * n)), (1, xi i), (2, xi m)]) (st' := [xr (131 + 2 * n), xi m]) rfl ?_
                    refine ex_gfi rfl (by omega) (x_tsh n (by omega)).1 (by decide) (by decide) rfl ?_
                    refine ex_st 2 (pc' := 23) (ls' := [(0, xr (131 + 2 * n)), (1, xi i), (2, xi m)]) (st' := [xi ((I (131 + 2 * n) 1) - i), xi m]) rfl ?_
                    refine ex_ic rfl (by first | omega | (constructor <;> omega) | assumption) (by first | omega | (constructor <;> omega) | assumption) (fun (h36 : ((I (131 + 2 * n) 1) - i) < m) => ?_) (fun (h36 : ¬ ((I (131 + 2 * n) 1) - i) < m) => ?_)
                    · refine ex_st 1 (pc' := 31) (ls' := [(0, xr (131 + 2 * n)), (1, xi i), (2, xi m)]) (st' := [xi 0]) rfl ?_
                      refine ex_retz rfl (Or.inl rfl) rfl ?_
                      refine ex_st 1 (pc' := 90) (ls' := [(7, xr (131 + 2 * q)), (6, xr (131 + 2 * n)), (0, xr 0), (1, xi (↑n)), (2, xi i), (3, xi (↑q)), (4, xi j), (5, xi m)]) (st' := []) rfl ?_
                      refine ex_st 1 (pc' := 92) (ls' := [(7, xr (131 + 2 * q)), (6, xr (131 + 2 * n)), (0, xr 0), (1, xi (↑n)), (2, xi i), (3, xi (↑q)), (4, xi j), (5, xi m)]) (st' := [xi (-13)]) rfl ?_
                      refine ex_reti rfl rfl ?_
                      refine x_CQ.of (M := xM_m_shift) rfl (Nat.le_of_ble_eq_true rfl) ?_
                      refine ex_st 2 (pc' := 2) (ls' := [(0, xr 143), (1, xi (↑n)), (2, xi i), (3, xi (↑q)), (4, xi j), (5, xi m)]) (st' := [xi (↑n), xr 143]) rfl ?_
                      refine ex_call (ct_m_isTape (by first | omega | (constructor <;> omega) | assumption)) (by decide) rfl ⟨rfl, rfl, rfl⟩ ⟨Nat.le_of_ble_eq_true rfl, rfl, rfl⟩ (Nat.le_of_ble_eq_true rfl) rfl ?_
                      refine ex_beq rfl (fun h37 => ?_) (fun h37 => ?_)
                      · exfalso; omega
                      · refine ex_st 2 (pc' := 10) (ls' := [(0, xr 143), (1, xi (↑n)), (2, xi i), (3, xi (↑q)), (4, xi j), (5, xi m)]) (st' := [xi (↑q), xr 143]) rfl ?_
                        refine ex_call (ct_m_isTape (by first | omega | (constructor <;> omega) | assumption)) (by decide) rfl ⟨rfl, rfl, rfl⟩ ⟨Nat.le_of_ble_eq_true rfl, rfl, rfl⟩ (Nat.le_of_ble_eq_true rfl) rfl ?_
                        refine ex_bne rfl (fun h38 => ?_) (fun h38 => ?_)
                        · refine ex_st 3 (pc' := 23) (ls' := [(0, xr 143), (1, xi (↑n)), (2, xi i), (3, xi (↑q)), (4, xi j), (5, xi m)]) (st' := [xi (↑n), xr 191]) rfl ?_
                          refine ex_iald (j := n) rfl (by decide) (rfl : xSH[191]? = some _) (by omega) (by omega) (by decide) ?_
                          refine ex_if rfl (by first | omega | (constructor <;> omega) | assumption) (fun (h39 : (I 191 n) < 0) => ?_) (fun (h39 : ¬ (I 191 n) < 0) => ?_)
                          · exfalso; omega
                          · refine ex_st 3 (pc' := 32) (ls' := [(0, xr 143), (1, xi (↑n)), (2, xi i), (3, xi (↑q)), (4, xi j), (5, xi m)]) (st' := [xi (↑q), xr 191]) rfl ?_
                            refine ex_iald (j := q) rfl (by decide) (rfl : xSH[191]? = some _) (by omega) (by omega) (by decide) ?_
                            refine ex_if rfl (by first | omega | (constructor <;> omega) | assumption) (fun (h40 : ((0 : Int)) ≤ (I 191 q)) => ?_) (fun (h40 : ¬ ((0 : Int)) ≤ (I 191 q)) => ?_)
                            · refine ex_st 3 (pc' := 44) (ls' := [(0, xr 143), (1, xi (↑n)), (2, xi i), (3, xi (↑q)), (4, xi j), (5, xi m)]) (st' := [xi (↑n), xr 191]) rfl ?_
                              refine ex_iald (j := n) rfl (by decide) (rfl : xSH[191]? = some _) (by omega) (by omega) (by decide) ?_
                              refine ex_st 3 (pc' := 50) (ls' := [(0, xr 143), (1, xi (↑n)), (2, xi i), (3, xi (↑q)), (4, xi j), (5, xi m)]) (st' := [xi (↑q), xr 191, xi (I 191 n)]) rfl ?_
                              refine ex_iald (j := q) rfl (by decide) (rfl : xSH[191]? = some _) (by omega) (by omega) (by decide) ?_
                              refine ex_ic rfl (by first | omega | (constructor <;> omega) | assumption) (by first | omega | (constructor <;> omega) | assumption) (fun (h41 : (I 191 n) = (I 191 q)) => ?_) (fun (h41 : ¬ (I 191 n) = (I 191 q)) => ?_)
                              · refine ex_st 1 (pc' := 59) (ls' := [(0, xr 143), (1, xi (↑n)), (2, xi i), (3, xi (↑q)), (4, xi j), (5, xi m)]) (st' := [xi m]) rfl ?_
                                refine ex_if rfl (by first | omega | (constructor <;> omega) | assumption) (fun (h42 : m < 0) => ?_) (fun (h42 : ¬ m < 0) => ?_)
                                · exfalso; omega
                                · refine ex_st 1 (pc' := 63) (ls' := [(0, xr 143), (1, xi (↑n)), (2, xi i), (3, xi (↑q)), (4, xi j), (5, xi m)]) (st' := [xi i]) rfl ?_
                                  refine ex_if rfl (by first | omega | (constructor <;> omega) | assumption) (fun (h43 : i < 0) => ?_) (fun (h43 : ¬ i < 0) => ?_)
                                  · exfalso; omega
                                  · refine ex_st 1 (pc' := 68) (ls' := [(0, xr 143), (1, xi (↑n)), (2, xi i), (3, xi (↑q)), (4, xi j), (5, xi m)]) (st' := [xi j]) rfl ?_
                                    refine ex_if rfl (by first | omega | (constructor <;> omega) | assumption) (fun (h44 : j < 0) => ?_) (fun (h44 : ¬ j < 0) => ?_)
                                    · refine ex_st 1 (pc' := 100) (ls' := [(0, xr 143), (1, xi (↑n)), (2, xi i), (3, xi (↑q)), (4, xi j), (5, xi m)]) (st' := [xi (-13)]) rfl ?_
                                      refine ex_reti rfl rfl ?_
                                      exact ⟨x_req (by first | rfl | omega), _, _, rfl, hR⟩
                                    · exfalso; omega
                              · exfalso; omega
                            · exfalso; omega
                        · exfalso; omega
                    · refine ex_st 2 (pc' := 31) (ls' := [(0, xr (131 + 2 * n)), (1, xi i), (2, xi m)]) (st' := [xi 1]) rfl ?_
                      refine ex_retz rfl (Or.inr rfl) rfl ?_
                      refine ex_st 1 (pc' := 78) (ls' := [(7, xr (131 + 2 * q)), (6, xr (131 + 2 * n)), (0, xr 0), (1, xi (↑n)), (2, xi i), (3, xi (↑q)), (4, xi j), (5, xi m)]) (st' := []) rfl ?_
                      refine ex_st 3 (pc' := 84) (ls' := [(7, xr (131 + 2 * q)), (6, xr (131 + 2 * n)), (0, xr 0), (1, xi (↑n)), (2, xi i), (3, xi (↑q)), (4, xi j), (5, xi m)]) (st' := [xi m, xi j, xr (131 + 2 * q)]) rfl ?_
                      refine ex_inl (M' := xM_Tp_hasPlaces) (as := [xr (131 + 2 * q), xi j, xi m]) (rest := []) (D' := 28) rfl (Nat.le_of_ble_eq_true rfl) (by decide) rfl ⟨rfl, rfl, rfl⟩ ⟨Nat.le_of_ble_eq_true rfl, rfl, rfl⟩ (Nat.le_of_ble_eq_true rfl) (x_recv_v (by omega) (x_tsh q (by omega)).1 (by decide)) ?_
                      refine ex_st 1 (pc' := 1) (ls' := [(0, xr (131 + 2 * q)), (1, xi j), (2, xi m)]) (st' := [xi j]) rfl ?_
                      refine ex_if rfl (by first | omega | (constructor <;> omega) | assumption) (fun (h45 : j < 0) => ?_) (fun (h45 : ¬ j < 0) => ?_)
                      · refine ex_st 1 (pc' := 31) (ls' := [(0, xr (131 + 2 * q)), (1, xi j), (2, xi m)]) (st' := [xi 0]) rfl ?_
                        refine ex_retz rfl (Or.inl rfl) rfl ?_
                        refine ex_st 1 (pc' := 90) (ls' := [(7, xr (131 + 2 * q)), (6, xr (131 + 2 * n)), (0, xr 0), (1, xi (↑n)), (2, xi i), (3, xi (↑q)), (4, xi j), (5, xi m)]) (st' := []) rfl ?_
                        refine ex_st 1 (pc' := 92) (ls' := [(7, xr (131 + 2 * q)), (6, xr (131 + 2 * n)), (0, xr 0), (1, xi (↑n)), (2, xi i), (3, xi (↑q)), (4, xi j), (5, xi m)]) (st' := [xi (-13)]) rfl ?_
                        refine ex_reti rfl rfl ?_
                        refine x_CQ.of (M := xM_m_shift) rfl (Nat.le_of_ble_eq_true rfl) ?_
                        refine ex_st 2 (pc' := 2) (ls' := [(0, xr 143), (1, xi (↑n)), (2, xi i), (3, xi (↑q)), (4, xi j), (5, xi m)]) (st' := [xi (↑n), xr 143]) rfl ?_
                        refine ex_call (ct_m_isTape (by first | omega | (constructor <;> omega) | assumption)) (by decide) rfl ⟨rfl, rfl, rfl⟩ ⟨Nat.le_of_ble_eq_true rfl, rfl, rfl⟩ (Nat.le_of_ble_eq_true rfl) rfl ?_
                        refine ex_beq rfl (fun h46 => ?_) (fun h46 => ?_)
                        · exfalso; omega
                        · refine ex_st 2 (pc' := 10) (ls' := [(0, xr 143), (1, xi (↑n)), (2, xi i), (3, xi (↑q)), (4, xi j), (5, xi m)]) (st' := [xi (↑q), xr 143]) rfl ?_
                          refine ex_call (ct_m_isTape (by first | omega | (constructor <;> omega) | assumption)) (by decide) rfl ⟨rfl, rfl, rfl⟩ ⟨Nat.le_of_ble_eq_true rfl, rfl, rfl⟩ (Nat.le_of_ble_eq_true rfl) rfl ?_
                          refine ex_bne rfl (fun h47 => ?_) (fun h47 => ?_)
                          · refine ex_st 3 (pc' := 23) (ls' := [(0, xr 143), (1, xi (↑n)), (2, xi i), (3, xi (↑q)), (4, xi j), (5, xi m)]) (st' := [xi (↑n), xr 191]) rfl ?_
                            refine ex_iald (j := n) rfl (by decide) (rfl : xSH[191]? = some _) (by omega) (by omega) (by decide) ?_
                            refine ex_if rfl (by first | omega | (constructor <;> omega) | assumption) (fun (h48 : (I 191 n) < 0) => ?_) (fun (h48 : ¬ (I 191 n) < 0) => ?_)
                            · exfalso; omega
                            · refine ex_st 3 (pc' := 32) (ls' := [(0, xr 143), (1, xi (↑n)), (2, xi i), (3, xi (↑q)), (4, xi j), (5, xi m)]) (st' := [xi (↑q), xr 191]) rfl ?_
                              refine ex_iald (j := q) rfl (by decide) (rfl : xSH[191]? = some _) (by omega) (by omega) (by decide) ?_
                              refine ex_if rfl (by first | omega | (constructor <;> omega) | assumption) (fun (h49 : ((0 : Int)) ≤ (I 191 q)) => ?_) (fun (h49 : ¬ ((0 : Int)) ≤ (I 191 q)) => ?_)
                              · refine ex_st 3 (pc' := 44) (ls' := [(0, xr 143), (1, xi (↑n)), (2, xi i), (3, xi (↑q)), (4, xi j), (5, xi m)]) (st' := [xi (↑n), xr 191]) rfl ?_
                                refine ex_iald (j := n) rfl (by decide) (rfl : xSH[191]? = some _) (by omega) (by omega) (by decide) ?_
                                refine ex_st 3 (pc' := 50) (ls' := [(0, xr 143), (1, xi (↑n)), (2, xi i), (3, xi (↑q)), (4, xi j), (5, xi m)]) (st' := [xi (↑q), xr 191, xi (I 191 n)]) rfl ?_
                                refine ex_iald (j := q) rfl (by decide) (rfl : xSH[191]? = some _) (by omega) (by omega) (by decide) ?_
                                refine ex_ic rfl (by first | omega | (constructor <;> omega) | assumption) (by first | omega | (constructor <;> omega) | assumption) (fun (h50 : (I 191 n) = (I 191 q)) => ?_) (fun (h50 : ¬ (I 191 n) = (I 191 q)) => ?_)
                                · refine ex_st 1 (pc' := 59) (ls' := [(0, xr 143), (1, xi (↑n)), (2, xi i), (3, xi (↑q)), (4, xi j), (5, xi m)]) (st' := [xi m]) rfl ?_
                                  refine ex_if rfl (by first | omega | (constructor <;> omega) | assumption) (fun (h51 : m < 0) => ?_) (fun (h51 : ¬ m < 0) => ?_)
                                  · exfalso; omega
                                  · refine ex_st 1 (pc' := 63) (ls' := [(0, xr 143), (1, xi (↑n)), (2, xi i), (3, xi (↑q)), (4, xi j), (5, xi m)]) (st' := [xi i]) rfl ?_
                                    refine ex_if rfl (by first | omega | (constructor <;> omega) | assumption) (fun (h52 : i < 0) => ?_) (fun (h52 : ¬ i < 0) => ?_)
                                    · exfalso; omega
                                    · refine ex_st 1 (pc' := 68) (ls' := [(0, xr 143), (1, xi (↑n)), (2, xi i), (3, xi (↑q)), (4, xi j), (5, xi m)]) (st' := [xi j]) rfl ?_
                                      refine ex_if rfl (by first | omega | (constructor <;> omega) | assumption) (fun (h53 : j < 0) => ?_) (fun (h53 : ¬ j < 0) => ?_)
                                      · refine ex_st 1 (pc' := 100) (ls' := [(0, xr 143), (1, xi (↑n)), (2, xi i), (3, xi (↑q)), (4, xi j), (5, xi m)]) (st' := [xi (-13)]) rfl ?_
                                        refine ex_reti rfl rfl ?_
                                        exact ⟨x_req (by first | rfl | omega), _, _, rfl, hR⟩
                                      · exfalso; omega
                                · exfalso; omega
                              · exfalso; omega
                          · exfalso; omega
                      · exfalso; omega
            · refine ex_st 1 (pc' := 66) (ls' := [(7, xr (131 + 2 * q)), (6, xr (131 + 2 * n)), (0, xr 0), (1, xi (↑n)), (2, xi i), (3, xi (↑q)), (4, xi j), (5, xi m)]) (st' := [xi (-12)]) rfl ?_
              refine ex_reti rfl rfl ?_
              refine x_CQ.of (M := xM_m_shift) rfl (Nat.le_of_ble_eq_true rfl) ?_
              refine ex_st 2 (pc' := 2) (ls' := [(0, xr 143), (1, xi (↑n)), (2, xi i), (3, xi (↑q)), (4, xi j), (5, xi m)]) (st' := [xi (↑n), xr 143]) rfl ?_
              refine ex_call (ct_m_isTape (by first | omega | (constructor <;> omega) | assumption)) (by decide) rfl ⟨rfl, rfl, rfl⟩ ⟨Nat.le_of_ble_eq_true rfl, rfl, rfl⟩ (Nat.le_of_ble_eq_true rfl) rfl ?_
              refine ex_beq rfl (fun h54 => ?_) (fun h54 => ?_)
              · exfalso; omega
              · refine ex_st 2 (pc' := 10) (ls' := [(0, xr 143), (1, xi (↑n)), (2, xi i), (3, xi (↑q)), (4, xi j), (5, xi m)]) (st' := [xi (↑q), xr 143]) rfl ?_
                refine ex_call (ct_m_isTape (by first | omega | (constructor <;> omega) | assumption)) (by decide) rfl ⟨rfl, rfl, rfl⟩ ⟨Nat.le_of_ble_eq_true rfl, rfl, rfl⟩ (Nat.le_of_ble_eq_true rfl) rfl ?_
                refine ex_bne rfl (fun h55 => ?_) (fun h55 => ?_)
                · refine ex_st 3 (pc' := 23) (ls' := [(0, xr 143), (1, xi (↑n)), (2, xi i), (3, xi (↑q)), (4, xi j), (5, xi m)]) (st' := [xi (↑n), xr 191]) rfl ?_
                  refine ex_iald (j := n) rfl (by decide) (rfl : xSH[191]? = some _) (by omega) (by omega) (by decide) ?_
                  refine ex_if rfl (by first | omega | (constructor <;> omega) | assumption) (fun (h56 : (I 191 n) < 0) => ?_) (fun (h56 : ¬ (I 191 n) < 0) => ?_)
                  · exfalso; omega
                  · refine ex_st 3 (pc' := 32) (ls' := [(0, xr 143), (1, xi (↑n)), (2, xi i), (3, xi (↑q)), (4, xi j), (5, xi m)]) (st' := [xi (↑q), xr 191]) rfl ?_
                    refine ex_iald (j := q) rfl (by decide) (rfl : xSH[191]? = some _) (by omega) (by omega) (by decide) ?_
                    refine ex_if rfl (by first | omega | (constructor <;> omega) | assumption) (fun (h57 : ((0 : Int)) ≤ (I 191 q)) => ?_) (fun (h57 : ¬ ((0 : Int)) ≤ (I 191 q)) => ?_)
                    · refine ex_st 3 (pc' := 44) (ls' := [(0, xr 143), (1, xi (↑n)), (2, xi i), (3, xi (↑q)), (4, xi j), (5, xi m)]) (st' := [xi (↑n), xr 191]) rfl ?_
                      refine ex_iald (j := n) rfl (by decide) (rfl : xSH[191]? = some _) (by omega) (by omega) (by decide) ?_
                      refine ex_st 3 (pc' := 50) (ls' := [(0, xr 143), (1, xi (↑n)), (2, xi i), (3, xi (↑q)), (4, xi j), (5, xi m)]) (st' := [xi (↑q), xr 191, xi (I 191 n)]) rfl ?_
                      refine ex_iald (j := q) rfl (by decide) (rfl : xSH[191]? = some _) (by omega) (by omega) (by decide) ?_
                      refine ex_ic rfl (by first | omega | (constructor <;> omega) | assumption) (by first | omega | (constructor <;> omega) | assumption) (fun (h58 : (I 191 n) = (I 191 q)) => ?_) (fun (h58 : ¬ (I 191 n) = (I 191 q)) => ?_)
                      · exfalso; omega
                      · refine ex_st 1 (pc' := 56) (ls' := [(0, xr 143), (1, xi (↑n)), (2, xi i), (3, xi (↑q)), (4, xi j), (5, xi m)]) (st' := [xi (-12)]) rfl ?_
                        refine ex_reti rfl rfl ?_
                        exact ⟨x_req (by first | rfl | omega), _, _, rfl, hR⟩
                    · exfalso; omega
                · exfalso; omega
      · exfalso; omega
  refine x_CQ.of (M := xM_G_shift) rfl (Nat.le_of_ble_eq_true rfl) ?_
  refine ex_st 1 (pc' := 1) (ls' := [(0, xr 0), (1, xi t), (2, xi i), (3, xi o), (4, xi j), (5, xi m)]) (st' := [xi t]) rfl ?_
  refine ex_call (ct_G_isTape (by first | omega | (constructor <;> omega) | assumption)) (by decide) rfl ⟨rfl, rfl, rfl⟩ ⟨Nat.le_of_ble_eq_true rfl, rfl, rfl⟩ (Nat.le_of_ble_eq_true rfl) rfl ?_
  refine ex_beq rfl (fun h0 => ?_) (fun h0 => ?_)
  · refine ex_st 1 (pc' := 15) (ls' := [(0, xr 0), (1, xi t), (2, xi i), (3, xi o), (4, xi j), (5, xi m)]) (st' := [xi (-1)]) rfl ?_
    refine ex_reti rfl rfl ?_
    refine x_CQ.of (M := xM_m_shift) rfl (Nat.le_of_ble_eq_true rfl) ?_
    refine ex_st 2 (pc' := 2) (ls' := [(0, xr 143), (1, xi t), (2, xi i), (3, xi o), (4, xi j), (5, xi m)]) (st' := [xi t, xr 143]) rfl ?_
    refine ex_call (ct_m_isTape (by first | omega | (constructor <;> omega) | assumption)) (by decide) rfl ⟨rfl, rfl, rfl⟩ ⟨Nat.le_of_ble_eq_true rfl, rfl, rfl⟩ (Nat.le_of_ble_eq_true rfl) rfl ?_
    refine ex_beq rfl (fun h1 => ?_) (fun h1 => ?_)
    · refine ex_st 1 (pc' := 17) (ls' := [(0, xr 143), (1, xi t), (2, xi i), (3, xi o), (4, xi j), (5, xi m)]) (st' := [xi (-1)]) rfl ?_
      refine ex_reti rfl rfl ?_
      exact ⟨x_req (by first | rfl | omega), _, _, rfl, hR⟩
    · exfalso; omega
  · refine ex_st 1 (pc' := 8) (ls' := [(0, xr 0), (1, xi t), (2, xi i), (3, xi o), (4, xi j), (5, xi m)]) (st' := [xi o]) rfl ?_
    refine ex_call (ct_G_isTape (by first | omega | (constructor <;> omega) | assumption)) (by decide) rfl ⟨rfl, rfl, rfl⟩ ⟨Nat.le_of_ble_eq_true rfl, rfl, rfl⟩ (Nat.le_of_ble_eq_true rfl) rfl ?_
    refine ex_bne rfl (fun h2 => ?_) (fun h2 => ?_)
    · exfalso; omega
    · refine ex_st 1 (pc' := 15) (ls' := [(0, xr 0), (1, xi t), (2, xi i), (3, xi o), (4, xi j), (5, xi m)]) (st' := [xi (-1)]) rfl ?_
      refine ex_reti rfl rfl ?_
      refine x_CQ.of (M := xM_m_shift) rfl (Nat.le_of_ble_eq_true rfl) ?_
      refine ex_st 2 (pc' := 2) (ls' := [(0, xr 143), (1, xi t), (2, xi i), (3, xi o), (4, xi j), (5, xi m)]) (st' := [xi t, xr 143]) rfl ?_
      refine ex_call (ct_m_isTape (by first | omega | (constructor <;> omega) | assumption)) (by decide) rfl ⟨rfl, rfl, rfl⟩ ⟨Nat.le_of_ble_eq_true rfl, rfl, rfl⟩ (Nat.le_of_ble_eq_true rfl) rfl ?_
      refine ex_beq rfl (fun h3 => ?_) (fun h3 => ?_)
      · exfalso; omega
      · refine ex_st 2 (pc' := 10) (ls' := [(0, xr 143), (1, xi t), (2, xi i), (3, xi o), (4, xi j), (5, xi m)]) (st' := [xi o, xr 143]) rfl ?_
        refine ex_call (ct_m_isTape (by first | omega | (constructor <;> omega) | assumption)) (by decide) rfl ⟨rfl, rfl, rfl⟩ ⟨Nat.le_of_ble_eq_true rfl, rfl, rfl⟩ (Nat.le_of_ble_eq_true rfl) rfl ?_
        refine ex_bne rfl (fun h4 => ?_) (fun h4 => ?_)
        · exfalso; omega
        · refine ex_st 1 (pc' := 17) (ls' := [(0, xr 143), (1, xi t), (2, xi i), (3, xi o), (4, xi j), (5, xi m)]) (st' := [xi (-1)]) rfl ?_
          refine ex_reti rfl rfl ?_
          exact ⟨x_req (by first | rfl | omega), _, _, rfl, hR⟩
