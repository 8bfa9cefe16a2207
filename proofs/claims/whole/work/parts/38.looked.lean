/-! pairs of calls: looked, judge -/
/-- the first that differs, from i on -/
def sp_fst (d : Nat → Bool) : Nat → Nat → Int
  | 0, _ => -5
  | n + 1, i => if d i = true then (i : Int) else sp_fst d n (i + 1)
def sp_jd (e d : Nat → Bool) : Nat → Nat → Int
  | 0, _ => -5
  | n + 1, i => if e i = true then 100 + (i : Int) else if d i = true then (i : Int) else sp_jd e d n (i + 1)

theorem lp_Glooked {sc : List Int} {I : Nat → Nat → Int} {L : Nat → Nat → Int64} {n : Nat} {w u : Nat → Nat} {bb : Nat → Int} {B : Nat → Nat → Int} (hn8 : n ≤ 8) (hz0 : I 9 2 = (n : Int)) (hz : ∀ k, k < n → I 10 (k * 4 + 0) = (w k : Int) ∧ w k ≤ 5 ∧ I 10 (k * 4 + 1) = (u k : Int) ∧ u k ≤ 4 ∧ I 10 (k * 4 + 2) = bb k ∧ x_R (bb k)) (hb : ∀ p x, p < 6 → x < 5 → I (11 + 3 * p + 1) x = B p x ∧ x_R (B p x)) (i : Nat) (hi : i ≤ n) {Q : Option xPV → xMem → Prop} (kk : Q (some (xi (sp_fst (fun k => decide (B (w k) (u k) ≠ bb k)) (n - i) i))) (xSH, I, L)) : x_Ex sc 28 xM_G_looked 2 [(1, xi (↑i)), (0, xr 0)] [] (xSH, I, L) Q := by
  refine ex_st 5 (pc' := 13) (ls' := [(1, xi (↑i)), (0, xr 0)]) (st' := [xi (I 9 2), xi (↑i)]) rfl ?_
  rw [hz0]
  refine ex_ic rfl (by first | omega | (constructor <;> omega) | assumption) (by first | omega | (constructor <;> omega) | assumption) (fun (h0 : (↑n : Int) ≤ (↑i : Int)) => ?_) (fun (h0 : ¬ (↑n : Int) ≤ (↑i : Int)) => ?_)
  · refine ex_st 1 (pc' := 79) (ls' := [(1, xi (↑i)), (0, xr 0)]) (st' := [xi (-5)]) rfl ?_
    refine ex_reti rfl rfl ?_
    rw [show n - i = 0 by omega] at kk; exact kk
  · obtain ⟨hz1, hz2, hz3, hz4, hz5, hz6⟩ := hz i (by omega)
    obtain ⟨hb1, hb2⟩ := hb (w i) (u i) (by omega) (by omega)
    refine ex_st 8 (pc' := 32) (ls' := [(1, xi (↑i)), (0, xr 0)]) (st' := [xi 0, xi (↑i), xr 9, xr 2]) rfl ?_
    refine ex_inl (M' := xM_Rw_at) (as := [xr 9, xi (↑i), xi 0]) (rest := [xr 2]) (D' := 27) rfl (Nat.le_of_ble_eq_true rfl) (by decide) rfl ⟨rfl, rfl, rfl⟩ ⟨Nat.le_of_ble_eq_true rfl, rfl, rfl⟩ (Nat.le_of_ble_eq_true rfl) rfl ?_
    refine ex_st 7 (pc' := 9) (ls' := [(0, xr 9), (1, xi (↑i)), (2, xi 0)]) (st' := [xi (((↑i) * 4) + 0), xr 10]) rfl ?_
    refine ex_iald (j := (((i) * 4) + 0)) rfl (by decide) (rfl : xSH[10]? = some _) (by omega) (by omega) (by decide) ?_
    rw [hz1]
    refine ex_reti rfl rfl ?_
    refine ex_aald (q := 11 + 3 * (w i)) (j := ((w i))) rfl (by decide) (rfl : xSH[2]? = some _) (by decide) (by omega) (by omega) (by decide) (x_aa2 (w i) (by omega)) (by omega) ?_
    refine ex_st 2 (pc' := 38) (ls' := [(2, xr (11 + 3 * (w i))), (1, xi (↑i)), (0, xr 0)]) (st' := [xr (11 + 3 * (w i))]) rfl ?_
    refine ex_gfr rfl (by omega) (x_so1 (w i) (by omega)).1 (by decide) (by decide) rfl ?_
    refine ex_st 5 (pc' := 50) (ls' := [(2, xr (11 + 3 * (w i))), (1, xi (↑i)), (0, xr 0)]) (st' := [xi 1, xi (↑i), xr 9, xr (11 + 3 * (w i) + 1)]) rfl ?_
    refine ex_inl (M' := xM_Rw_at) (as := [xr 9, xi (↑i), xi 1]) (rest := [xr (11 + 3 * (w i) + 1)]) (D' := 27) rfl (Nat.le_of_ble_eq_true rfl) (by decide) rfl ⟨rfl, rfl, rfl⟩ ⟨Nat.le_of_ble_eq_true rfl, rfl, rfl⟩ (Nat.le_of_ble_eq_true rfl) rfl ?_
    refine ex_st 7 (pc' := 9) (ls' := [(0, xr 9), (1, xi (↑i)), (2, xi 1)]) (st' := [xi (((↑i) * 4) + 1), xr 10]) rfl ?_
    refine ex_iald (j := (((i) * 4) + 1)) rfl (by decide) (rfl : xSH[10]? = some _) (by omega) (by omega) (by decide) ?_
    rw [hz3]
    refine ex_reti rfl rfl ?_
    refine ex_iald (j := ((u i))) rfl (by omega) (x_so1 (w i) (by omega)).2.1 (by omega) (by omega) (by decide) ?_
    rw [hb1]
    refine ex_st 5 (pc' := 63) (ls' := [(2, xr (11 + 3 * (w i))), (1, xi (↑i)), (0, xr 0)]) (st' := [xi 2, xi (↑i), xr 9, xi (B (w i) (u i))]) rfl ?_
    refine ex_inl (M' := xM_Rw_at) (as := [xr 9, xi (↑i), xi 2]) (rest := [xi (B (w i) (u i))]) (D' := 27) rfl (Nat.le_of_ble_eq_true rfl) (by decide) rfl ⟨rfl, rfl, rfl⟩ ⟨Nat.le_of_ble_eq_true rfl, rfl, rfl⟩ (Nat.le_of_ble_eq_true rfl) rfl ?_
    refine ex_st 7 (pc' := 9) (ls' := [(0, xr 9), (1, xi (↑i)), (2, xi 2)]) (st' := [xi (((↑i) * 4) + 2), xr 10]) rfl ?_
    refine ex_iald (j := (((i) * 4) + 2)) rfl (by decide) (rfl : xSH[10]? = some _) (by omega) (by omega) (by decide) ?_
    rw [hz5]
    refine ex_reti rfl rfl ?_
    refine ex_ic rfl (by first | omega | (constructor <;> omega) | assumption) (by first | omega | (constructor <;> omega) | assumption) (fun (h1 : (B (w i) (u i)) = (bb i)) => ?_) (fun (h1 : ¬ (B (w i) (u i)) = (bb i)) => ?_)
    · refine ex_st 2 (pc' := 2) (ls' := [(1, xi ((↑i) + 1)), (2, xr (11 + 3 * (w i))), (0, xr 0)]) (st' := []) rfl ?_
      rw [show n - i = (n - (i + 1)) + 1 by omega] at kk
      simp only [sp_fst] at kk
      rw [if_neg (by simp only [decide_eq_true_eq]; omega)] at kk
      refine ex_pm [(1, xi (↑i + 1)), (0, xr 0)] (fun i => by rcases i with _ | _ | _ | _ | _ | _ | _ | _ | _ | i <;> first | (right; rfl) | (left; rfl)) ?_
      exact lp_Glooked hn8 hz0 hz hb (i + 1) (by omega) kk
    · refine ex_st 1 (pc' := 70) (ls' := [(2, xr (11 + 3 * (w i))), (1, xi (↑i)), (0, xr 0)]) (st' := [xi (↑i)]) rfl ?_
      refine ex_reti rfl rfl ?_
      rw [show n - i = (n - (i + 1)) + 1 by omega] at kk
      simp only [sp_fst] at kk
      rw [if_pos (by simp only [decide_eq_true_eq]; omega)] at kk; exact kk
termination_by n - i
decreasing_by all_goals omega
theorem lp_mlooked {sc : List Int} {I : Nat → Nat → Int} {L : Nat → Nat → Int64} {n : Nat} {w u : Nat → Nat} {bb : Nat → Int} {B : Nat → Nat → Int} (hn8 : n ≤ 8) (hz0 : I 143 44 = (n : Int)) (hz : ∀ k, k < n → I 171 k = (w k : Int) ∧ w k ≤ 5 ∧ I 172 k = (u k : Int) ∧ u k ≤ 4 ∧ I 173 k = bb k ∧ x_R (bb k)) (hb : ∀ p x, p < 6 → x < 5 → I 147 (5 * p + x) = B p x ∧ x_R (B p x)) (i : Nat) (hi : i ≤ n) {Q : Option xPV → xMem → Prop} (kk : Q (some (xi (sp_fst (fun k => decide (B (w k) (u k) ≠ bb k)) (n - i) i))) (xSH, I, L)) : x_Ex sc 28 xM_m_looked 2 [(1, xi (↑i)), (0, xr 143)] [] (xSH, I, L) Q := by
  refine ex_st 3 (pc' := 7) (ls' := [(1, xi (↑i)), (0, xr 143)]) (st' := [xi (I 143 44), xi (↑i)]) rfl ?_
  rw [hz0]
  refine ex_ic rfl (by first | omega | (constructor <;> omega) | assumption) (by first | omega | (constructor <;> omega) | assumption) (fun (h0 : (↑n : Int) ≤ (↑i : Int)) => ?_) (fun (h0 : ¬ (↑n : Int) ≤ (↑i : Int)) => ?_)
  · refine ex_st 1 (pc' := 49) (ls' := [(1, xi (↑i)), (0, xr 143)]) (st' := [xi (-5)]) rfl ?_
    refine ex_reti rfl rfl ?_
    rw [show n - i = 0 by omega] at kk; exact kk
  · obtain ⟨hz1, hz2, hz3, hz4, hz5, hz6⟩ := hz i (by omega)
    obtain ⟨hb1, hb2⟩ := hb (w i) (u i) (by omega) (by omega)
    refine ex_st 6 (pc' := 20) (ls' := [(1, xi (↑i)), (0, xr 143)]) (st' := [xi (↑i), xr 171, xi 5, xr 147]) rfl ?_
    refine ex_iald (j := i) rfl (by decide) (rfl : xSH[171]? = some _) (by omega) (by omega) (by decide) ?_
    rw [hz1]
    refine ex_st 4 (pc' := 27) (ls' := [(1, xi (↑i)), (0, xr 143)]) (st' := [xi (↑i), xr 172, xi (5 * (↑(w i))), xr 147]) rfl ?_
    refine ex_iald (j := i) rfl (by decide) (rfl : xSH[172]? = some _) (by omega) (by omega) (by decide) ?_
    rw [hz3]
    refine ex_st 1 (pc' := 29) (ls' := [(1, xi (↑i)), (0, xr 143)]) (st' := [xi ((5 * (↑(w i))) + (↑(u i))), xr 147]) rfl ?_
    refine ex_iald (j := ((5 * ((w i))) + ((u i)))) rfl (by decide) (rfl : xSH[147]? = some _) (by omega) (by omega) (by decide) ?_
    rw [hb1]
    refine ex_st 3 (pc' := 35) (ls' := [(1, xi (↑i)), (0, xr 143)]) (st' := [xi (↑i), xr 173, xi (B (w i) (u i))]) rfl ?_
    refine ex_iald (j := i) rfl (by decide) (rfl : xSH[173]? = some _) (by omega) (by omega) (by decide) ?_
    rw [hz5]
    refine ex_ic rfl (by first | omega | (constructor <;> omega) | assumption) (by first | omega | (constructor <;> omega) | assumption) (fun (h1 : (B (w i) (u i)) = (bb i)) => ?_) (fun (h1 : ¬ (B (w i) (u i)) = (bb i)) => ?_)
    · refine ex_st 2 (pc' := 2) (ls' := [(1, xi ((↑i) + 1)), (0, xr 143)]) (st' := []) rfl ?_
      rw [show n - i = (n - (i + 1)) + 1 by omega] at kk
      simp only [sp_fst] at kk
      rw [if_neg (by simp only [decide_eq_true_eq]; omega)] at kk
      exact lp_mlooked hn8 hz0 hz hb (i + 1) (by omega) kk
    · refine ex_st 1 (pc' := 40) (ls' := [(1, xi (↑i)), (0, xr 143)]) (st' := [xi (↑i)]) rfl ?_
      refine ex_reti rfl rfl ?_
      rw [show n - i = (n - (i + 1)) + 1 by omega] at kk
      simp only [sp_fst] at kk
      rw [if_pos (by simp only [decide_eq_true_eq]; omega)] at kk; exact kk
termination_by n - i
decreasing_by all_goals omega
theorem op_looked {sc : List Int} {I : Nat → Nat → Int} {L : Nat → Nat → Int64} (hR : Rl I L) : x_PQ sc xN_G_looked [xr 0] xN_m_looked [xr 143] (xSH, I, L) := by
  obtain ⟨hz1, hz2, hz3, hz4, hz5⟩ := id hR.1.2.2.2.2.2.2.2.2.2
  have hNb := hR.1.2.2.2.1
  obtain ⟨n, hn⟩ := Int.eq_ofNat_of_zero_le hz2
  have hbG : ∀ p x, p < 6 → x < 5 → I (11 + 3 * p + 1) x = I 147 (5 * p + x) ∧ x_R (I 147 (5 * p + x)) := fun p x hp hx => by have h := hNb p x hp hx; exact ⟨h.1, by constructor <;> omega⟩
  refine x_CQ.le (D := 29) ?_ (by decide)
  refine x_CQ.of (M := xM_G_looked) rfl (Nat.le_of_ble_eq_true rfl) ?_
  refine ex_st 2 (pc' := 2) (ls' := [(1, xi 0), (0, xr 0)]) (st' := []) rfl ?_
  refine lp_Glooked (n := n) (w := fun k => (I 171 k).toNat) (u := fun k => (I 172 k).toNat) (bb := fun k => I 173 k) (B := fun p x => I 147 (5 * p + x)) (by omega) (by omega) (fun k hk => ?_) hbG 0 (by omega) ?_
  · have h := hz5 k (by omega)
    refine ⟨by show I 10 (k * 4) = _; omega, by omega, by omega, by omega, by omega, by constructor <;> omega⟩
  · refine x_CQ.le (D := 29) ?_ (by decide)
    refine x_CQ.of (M := xM_m_looked) rfl (Nat.le_of_ble_eq_true rfl) ?_
    refine ex_st 2 (pc' := 2) (ls' := [(1, xi 0), (0, xr 143)]) (st' := []) rfl ?_
    refine lp_mlooked (n := n) (w := fun k => (I 171 k).toNat) (u := fun k => (I 172 k).toNat) (bb := fun k => I 173 k) (B := fun p x => I 147 (5 * p + x)) (by omega) (by omega) (fun k hk => ?_) (fun p x hp hx => ⟨rfl, (hbG p x hp hx).2⟩) 0 (by omega) ⟨rfl, _, _, rfl, hR⟩
    have h := hz5 k (by omega)
    refine ⟨by omega, by omega, by omega, by omega, rfl, by constructor <;> omega⟩

theorem lp_Gjudge {sc : List Int} {I : Nat → Nat → Int} {L : Nat → Nat → Int64} {c t s i : Nat} {vo : Nat → Int} (hc6 : c ≤ 6) (ht : t < 6) (hs6 : s ≤ 60) (hi6 : i < 100000) (hc0 : I 1 1 = (c : Int)) (hs0 : I (131 + 2 * t) 1 = (s : Int)) (hv : ∀ p, p < 6 → I (11 + 3 * p) 2 = vo p) (hL : ∀ j, j < 60 → L (131 + 2 * t + 1) j = L 193 (60 * t + j)) (p : Nat) (hp : p ≤ c) {Q : Option xPV → xMem → Prop} (kk : Q (some (xi (sp_jd (fun k => decide ((s : Int) - (k : Int) ≤ (i : Int))) (fun k => decide (¬ (lg_cmp (L 193 (60 * t + i + k)) (z_i2l (vo k))).toInt = 0)) (c - p) p))) (xSH, I, L)) : x_Ex sc 29 xM_G_judge 36 [(4, xi (↑p)), (3, xr (131 + 2 * t)), (0, xr 0), (1, xi (↑t)), (2, xi (↑i))] [] (xSH, I, L) Q := by
  refine ex_st 4 (pc' := 45) (ls' := [(4, xi (↑p)), (3, xr (131 + 2 * t)), (0, xr 0), (1, xi (↑t)), (2, xi (↑i))]) (st' := [xi (I 1 1), xi (↑p)]) rfl ?_
  rw [hc0]
  refine ex_ic rfl (by first | omega | (constructor <;> omega) | assumption | exact x_lcR _ _) (by first | omega | (constructor <;> omega) | assumption | exact x_lcR _ _) (fun (h0 : (↑c : Int) ≤ (↑p : Int)) => ?_) (fun (h0 : ¬ (↑c : Int) ≤ (↑p : Int)) => ?_)
  · refine ex_st 1 (pc' := 107) (ls' := [(4, xi (↑p)), (3, xr (131 + 2 * t)), (0, xr 0), (1, xi (↑t)), (2, xi (↑i))]) (st' := [xi (-5)]) rfl ?_
    refine ex_reti rfl rfl ?_
    rw [show c - p = 0 by omega] at kk; exact kk
  · refine ex_st 1 (pc' := 49) (ls' := [(4, xi (↑p)), (3, xr (131 + 2 * t)), (0, xr 0), (1, xi (↑t)), (2, xi (↑i))]) (st' := [xi (↑i)]) rfl ?_
    refine ex_if rfl (by first | omega | (constructor <;> omega) | assumption | exact x_lcR _ _) (fun (h1 : (↑i : Int) < 0) => ?_) (fun (h1 : ¬ (↑i : Int) < 0) => ?_)
    · exfalso; omega
    · refine ex_st 2 (pc' := 54) (ls' := [(4, xi (↑p)), (3, xr (131 + 2 * t)), (0, xr 0), (1, xi (↑t)), (2, xi (↑i))]) (st' := [xr (131 + 2 * t), xi (↑i)]) rfl ?_
      refine ex_gfi rfl (by omega) (x_tsh t (by omega)).1 (by decide) (by decide) rfl ?_
      rw [hs0]
      refine ex_st 2 (pc' := 60) (ls' := [(4, xi (↑p)), (3, xr (131 + 2 * t)), (0, xr 0), (1, xi (↑t)), (2, xi (↑i))]) (st' := [xi ((↑s) - (↑p)), xi (↑i)]) rfl ?_
      refine ex_ic rfl (by first | omega | (constructor <;> omega) | assumption | exact x_lcR _ _) (by first | omega | (constructor <;> omega) | assumption | exact x_lcR _ _) (fun (h2 : (↑i : Int) < ((↑s) - (↑p))) => ?_) (fun (h2 : ¬ (↑i : Int) < ((↑s) - (↑p))) => ?_)
      · refine ex_st 1 (pc' := 70) (ls' := [(4, xi (↑p)), (3, xr (131 + 2 * t)), (0, xr 0), (1, xi (↑t)), (2, xi (↑i))]) (st' := [xr (131 + 2 * t)]) rfl ?_
        refine ex_gfr rfl (by omega) (x_tsh t (by omega)).1 (by decide) (by decide) rfl ?_
        refine ex_st 3 (pc' := 77) (ls' := [(4, xi (↑p)), (3, xr (131 + 2 * t)), (0, xr 0), (1, xi (↑t)), (2, xi (↑i))]) (st' := [xi ((↑i) + (↑p)), xr (131 + 2 * t + 1)]) rfl ?_
        refine ex_lald (j := ((i) + (p))) rfl (by omega) (x_tsh t (by omega)).2 (by omega) (by omega) (by decide) ?_
        rw [hL (i + p) (by omega), ← Nat.add_assoc]
        refine ex_st 4 (pc' := 87) (ls' := [(4, xi (↑p)), (3, xr (131 + 2 * t)), (0, xr 0), (1, xi (↑t)), (2, xi (↑i))]) (st' := [xi (↑p), xr 2, xl (L 193 (60 * t + i + p))]) rfl ?_
        refine ex_aald (q := 11 + 3 * p) (j := p) rfl (by decide) (rfl : xSH[2]? = some _) (by decide) (by omega) (by omega) (by decide) (x_aa2 p (by omega)) (by omega) ?_
        refine ex_gfi rfl (by omega) (x_so1 p (by omega)).1 (by decide) (by decide) rfl ?_
        rw [hv p (by omega)]
        refine ex_st 2 (pc' := 93) (ls' := [(4, xi (↑p)), (3, xr (131 + 2 * t)), (0, xr 0), (1, xi (↑t)), (2, xi (↑i))]) (st' := [xi ((lg_cmp (L 193 (60 * t + i + p)) (z_i2l (vo p))).toInt)]) rfl ?_
        refine ex_if rfl (by first | omega | (constructor <;> omega) | assumption | exact x_lcR _ _) (fun (h3 : ((lg_cmp (L 193 (60 * t + i + p)) (z_i2l (vo p))).toInt) = 0) => ?_) (fun (h3 : ¬ ((lg_cmp (L 193 (60 * t + i + p)) (z_i2l (vo p))).toInt) = 0) => ?_)
        · refine ex_st 2 (pc' := 36) (ls' := [(4, xi ((↑p) + 1)), (3, xr (131 + 2 * t)), (0, xr 0), (1, xi (↑t)), (2, xi (↑i))]) (st' := []) rfl ?_
          rw [show c - p = (c - (p + 1)) + 1 by omega] at kk
          simp only [sp_jd] at kk
          rw [if_neg (by simp only [decide_eq_true_eq]; omega), if_neg (by simp only [decide_eq_true_eq]; first | assumption | exact fun h => h (by assumption))] at kk
          exact lp_Gjudge hc6 ht hs6 hi6 hc0 hs0 hv hL (p + 1) (by omega) kk
        · refine ex_st 1 (pc' := 98) (ls' := [(4, xi (↑p)), (3, xr (131 + 2 * t)), (0, xr 0), (1, xi (↑t)), (2, xi (↑i))]) (st' := [xi (↑p)]) rfl ?_
          refine ex_reti rfl rfl ?_
          rw [show c - p = (c - (p + 1)) + 1 by omega] at kk
          simp only [sp_jd] at kk
          rw [if_neg (by simp only [decide_eq_true_eq]; omega), if_pos (by simp only [decide_eq_true_eq]; assumption)] at kk; exact kk
      · refine ex_st 3 (pc' := 68) (ls' := [(4, xi (↑p)), (3, xr (131 + 2 * t)), (0, xr 0), (1, xi (↑t)), (2, xi (↑i))]) (st' := [xi (100 + (↑p))]) rfl ?_
        refine ex_reti rfl rfl ?_
        rw [show c - p = (c - (p + 1)) + 1 by omega] at kk
        simp only [sp_jd] at kk
        rw [if_pos (by simp only [decide_eq_true_eq]; omega)] at kk; exact kk
termination_by c - p
decreasing_by all_goals omega
theorem lp_mjudge {sc : List Int} {I : Nat → Nat → Int} {L : Nat → Nat → Int64} {c t s i : Nat} {vo : Nat → Int} (hc6 : c ≤ 6) (ht : t < 6) (hs6 : s ≤ 60) (hi6 : i < 100000) (hc0 : I 143 0 = (c : Int)) (hs0 : I 192 t = (s : Int)) (hso : I 191 t = 0) (hv : ∀ p, p < 6 → I 146 p = vo p) (p : Nat) (hp : p ≤ c) {Q : Option xPV → xMem → Prop} (kk : Q (some (xi (sp_jd (fun k => decide ((s : Int) - (k : Int) ≤ (i : Int))) (fun k => decide (¬ (lg_cmp (L 193 (60 * t + i + k)) (z_i2l (vo k))).toInt = 0)) (c - p) p))) (xSH, I, L)) : x_Ex sc 29 xM_m_judge 24 [(3, xi (↑p)), (0, xr 143), (1, xi (↑t)), (2, xi (↑i))] [] (xSH, I, L) Q := by
  refine ex_st 3 (pc' := 29) (ls' := [(3, xi (↑p)), (0, xr 143), (1, xi (↑t)), (2, xi (↑i))]) (st' := [xi (I 143 0), xi (↑p)]) rfl ?_
  rw [hc0]
  refine ex_ic rfl (by first | omega | (constructor <;> omega) | assumption | exact x_lcR _ _) (by first | omega | (constructor <;> omega) | assumption | exact x_lcR _ _) (fun (h0 : (↑c : Int) ≤ (↑p : Int)) => ?_) (fun (h0 : ¬ (↑c : Int) ≤ (↑p : Int)) => ?_)
  · refine ex_st 1 (pc' := 98) (ls' := [(3, xi (↑p)), (0, xr 143), (1, xi (↑t)), (2, xi (↑i))]) (st' := [xi (-5)]) rfl ?_
    refine ex_reti rfl rfl ?_
    rw [show c - p = 0 by omega] at kk; exact kk
  · refine ex_st 3 (pc' := 37) (ls' := [(3, xi (↑p)), (0, xr 143), (1, xi (↑t)), (2, xi (↑i))]) (st' := [xi (↑t), xr 191]) rfl ?_
    refine ex_iald (j := t) rfl (by decide) (rfl : xSH[191]? = some _) (by omega) (by omega) (by decide) ?_
    rw [hso]
    refine ex_st 1 (pc' := 41) (ls' := [(3, xi (↑p)), (0, xr 143), (1, xi (↑t)), (2, xi (↑i))]) (st' := []) rfl ?_
    refine ex_st 1 (pc' := 42) (ls' := [(3, xi (↑p)), (0, xr 143), (1, xi (↑t)), (2, xi (↑i))]) (st' := [xi (↑i)]) rfl ?_
    refine ex_if rfl (by first | omega | (constructor <;> omega) | assumption | exact x_lcR _ _) (fun (h1 : (↑i : Int) < 0) => ?_) (fun (h1 : ¬ (↑i : Int) < 0) => ?_)
    · exfalso; omega
    · refine ex_st 4 (pc' := 51) (ls' := [(3, xi (↑p)), (0, xr 143), (1, xi (↑t)), (2, xi (↑i))]) (st' := [xi (↑t), xr 192, xi (↑i)]) rfl ?_
      refine ex_iald (j := t) rfl (by decide) (rfl : xSH[192]? = some _) (by omega) (by omega) (by decide) ?_
      rw [hs0]
      refine ex_st 4 (pc' := 56) (ls' := [(3, xi (↑p)), (0, xr 143), (1, xi (↑t)), (2, xi (↑i))]) (st' := [xi (((↑s) - (↑p)) - 1), xi (↑i)]) rfl ?_
      refine ex_ic rfl (by first | omega | (constructor <;> omega) | assumption | exact x_lcR _ _) (by first | omega | (constructor <;> omega) | assumption | exact x_lcR _ _) (fun (h2 : (↑i : Int) ≤ (((↑s) - (↑p)) - 1)) => ?_) (fun (h2 : ¬ (↑i : Int) ≤ (((↑s) - (↑p)) - 1)) => ?_)
      · refine ex_st 9 (pc' := 76) (ls' := [(3, xi (↑p)), (0, xr 143), (1, xi (↑t)), (2, xi (↑i))]) (st' := [xi (((60 * (↑t)) + (↑i)) + (↑p)), xr 193]) rfl ?_
        refine ex_lald (j := (((60 * (t)) + (i)) + (p))) rfl (by decide) (rfl : xSH[193]? = some _) (by omega) (by omega) (by decide) ?_
        refine ex_st 3 (pc' := 82) (ls' := [(3, xi (↑p)), (0, xr 143), (1, xi (↑t)), (2, xi (↑i))]) (st' := [xi (↑p), xr 146, xl (L 193 (((60 * (t)) + (i)) + (p)))]) rfl ?_
        refine ex_iald (j := p) rfl (by decide) (rfl : xSH[146]? = some _) (by omega) (by omega) (by decide) ?_
        rw [hv p (by omega)]
        refine ex_st 2 (pc' := 85) (ls' := [(3, xi (↑p)), (0, xr 143), (1, xi (↑t)), (2, xi (↑i))]) (st' := [xi ((lg_cmp (L 193 (((60 * (t)) + (i)) + (p))) (z_i2l (vo p))).toInt)]) rfl ?_
        refine ex_if rfl (by first | omega | (constructor <;> omega) | assumption | exact x_lcR _ _) (fun (h3 : ((lg_cmp (L 193 (((60 * (t)) + (i)) + (p))) (z_i2l (vo p))).toInt) = 0) => ?_) (fun (h3 : ¬ ((lg_cmp (L 193 (((60 * (t)) + (i)) + (p))) (z_i2l (vo p))).toInt) = 0) => ?_)
        · refine ex_st 2 (pc' := 24) (ls' := [(3, xi ((↑p) + 1)), (0, xr 143), (1, xi (↑t)), (2, xi (↑i))]) (st' := []) rfl ?_
          rw [show c - p = (c - (p + 1)) + 1 by omega] at kk
          simp only [sp_jd] at kk
          rw [if_neg (by simp only [decide_eq_true_eq]; omega), if_neg (by simp only [decide_eq_true_eq]; first | assumption | exact fun h => h (by assumption))] at kk
          exact lp_mjudge hc6 ht hs6 hi6 hc0 hs0 hso hv (p + 1) (by omega) kk
        · refine ex_st 1 (pc' := 89) (ls' := [(3, xi (↑p)), (0, xr 143), (1, xi (↑t)), (2, xi (↑i))]) (st' := [xi (↑p)]) rfl ?_
          refine ex_reti rfl rfl ?_
          rw [show c - p = (c - (p + 1)) + 1 by omega] at kk
          simp only [sp_jd] at kk
          rw [if_neg (by simp only [decide_eq_true_eq]; omega), if_pos (by simp only [decide_eq_true_eq]; assumption)] at kk; exact kk
      · refine ex_st 3 (pc' := 63) (ls' := [(3, xi (↑p)), (0, xr 143), (1, xi (↑t)), (2, xi (↑i))]) (st' := [xi (100 + (↑p))]) rfl ?_
        refine ex_reti rfl rfl ?_
        rw [show c - p = (c - (p + 1)) + 1 by omega] at kk
        simp only [sp_jd] at kk
        rw [if_pos (by simp only [decide_eq_true_eq]; omega)] at kk; exact kk
termination_by c - p
decreasing_by all_goals omega
theorem op_judge_0 {sc : List Int} {I : Nat → Nat → Int} {L : Nat → Nat → Int64} (hR : Rl I L) {n i : Nat} (hn : n < 6) (hi : i < 100000) (hso : I 191 n = 0) : x_PQ sc xN_G_judge [xr 0, xi (↑n), xi (↑i)] xN_m_judge [xr 143, xi (↑n), xi (↑i)] (xSH, I, L) := by
  obtain ⟨⟨hNs, hNo, hNa, hNb, hNr, hNd, hNg, hNe, hNp, hNk⟩, hI, hT, hX, hC, hH, hQ⟩ := id hR
  have hs := hNs
  unfold RNs at hs
  obtain ⟨c, hc0⟩ := Int.eq_ofNat_of_zero_le hs.2.1
  have hq := hQ n (by omega)
  obtain ⟨z, hz⟩ := Int.eq_ofNat_of_zero_le hq.2.2.2.2.1
  refine x_CQ.of (M := xM_G_judge) rfl (Nat.le_of_ble_eq_true rfl) ?_
  refine ex_st 1 (pc' := 1) (ls' := [(0, xr 0), (1, xi (↑n)), (2, xi (↑i))]) (st' := [xi (↑n)]) rfl ?_
  refine ex_call (ct_G_isTape (by first | omega | (constructor <;> omega) | assumption)) (by decide) rfl ⟨rfl, rfl, rfl⟩ ⟨Nat.le_of_ble_eq_true rfl, rfl, rfl⟩ (Nat.le_of_ble_eq_true rfl) rfl ?_
  refine ex_bne rfl (fun h0 => ?_) (fun h0 => ?_)
  · refine ex_st 3 (pc' := 14) (ls' := [(0, xr 0), (1, xi (↑n)), (2, xi (↑i))]) (st' := [xi (↑n), xr 106]) rfl ?_
    refine ex_aald (q := 131 + 2 * n) (j := n) rfl (by decide) (rfl : xSH[106]? = some _) (by decide) (by omega) (by omega) (by decide) (x_aa106 n (by omega)) (by omega) ?_
    refine ex_st 2 (pc' := 17) (ls' := [(3, xr (131 + 2 * n)), (0, xr 0), (1, xi (↑n)), (2, xi (↑i))]) (st' := [xr (131 + 2 * n)]) rfl ?_
    refine ex_inl (M' := xM_Tp_holds) (as := [xr (131 + 2 * n)]) (rest := []) (D' := 28) rfl (Nat.le_of_ble_eq_true rfl) (by decide) rfl ⟨rfl, rfl, rfl⟩ ⟨Nat.le_of_ble_eq_true rfl, rfl, rfl⟩ (Nat.le_of_ble_eq_true rfl) (x_recv_v (by omega) (x_tsh n (by omega)).1 (by decide)) ?_
    refine ex_st 1 (pc' := 1) (ls' := [(0, xr (131 + 2 * n))]) (st' := [xr (131 + 2 * n)]) rfl ?_
    refine ex_gfi rfl (by omega) (x_tsh n (by omega)).1 (by decide) (by decide) rfl ?_
    refine ex_st 1 (pc' := 5) (ls' := [(0, xr (131 + 2 * n))]) (st' := [xi (-1), xi (I (131 + 2 * n) 0)]) rfl ?_
    refine ex_ic rfl (by first | omega | (constructor <;> omega) | assumption) (by decide) (fun (h1 : (I (131 + 2 * n) 0) = (-1)) => ?_) (fun (h1 : ¬ (I (131 + 2 * n) 0) = (-1)) => ?_)
    · exfalso; omega
    · refine ex_st 2 (pc' := 13) (ls' := [(0, xr (131 + 2 * n))]) (st' := [xi 1]) rfl ?_
      refine ex_retz rfl (Or.inr rfl) rfl ?_
      refine ex_st 1 (pc' := 23) (ls' := [(3, xr (131 + 2 * n)), (0, xr 0), (1, xi (↑n)), (2, xi (↑i))]) (st' := []) rfl ?_
      refine ex_st 1 (pc' := 24) (ls' := [(3, xr (131 + 2 * n)), (0, xr 0), (1, xi (↑n)), (2, xi (↑i))]) (st' := [xr (131 + 2 * n)]) rfl ?_
      refine ex_gfi rfl (by omega) (x_tsh n (by omega)).1 (by decide) (by decide) rfl ?_
      refine ex_if rfl (by first | omega | (constructor <;> omega) | assumption) (fun (h2 : (I (131 + 2 * n) 0) = 0) => ?_) (fun (h2 : ¬ (I (131 + 2 * n) 0) = 0) => ?_)
      · refine ex_st 2 (pc' := 36) (ls' := [(4, xi 0), (3, xr (131 + 2 * n)), (0, xr 0), (1, xi (↑n)), (2, xi (↑i))]) (st' := []) rfl ?_
        refine lp_Gjudge (c := c) (t := n) (s := z) (i := i) (vo := fun p => I 146 p) (by omega) (by omega) (by omega) (by omega) (by omega) (by omega) (fun p hp => (hNo p hp).2.2.2.2.2.2.1) hq.2.2.2.2.2.2.2 0 (by omega) ?_
        refine x_CQ.of (M := xM_m_judge) rfl (Nat.le_of_ble_eq_true rfl) ?_
        refine ex_st 2 (pc' := 2) (ls' := [(0, xr 143), (1, xi (↑n)), (2, xi (↑i))]) (st' := [xi (↑n), xr 143]) rfl ?_
        refine ex_call (ct_m_isTape (by first | omega | (constructor <;> omega) | assumption)) (by decide) rfl ⟨rfl, rfl, rfl⟩ ⟨Nat.le_of_ble_eq_true rfl, rfl, rfl⟩ (Nat.le_of_ble_eq_true rfl) rfl ?_
        refine ex_bne rfl (fun h3 => ?_) (fun h3 => ?_)
        · refine ex_st 3 (pc' := 15) (ls' := [(0, xr 143), (1, xi (↑n)), (2, xi (↑i))]) (st' := [xi (↑n), xr 191]) rfl ?_
          refine ex_iald (j := n) rfl (by decide) (rfl : xSH[191]? = some _) (by omega) (by omega) (by decide) ?_
          refine ex_if rfl (by first | omega | (constructor <;> omega) | assumption) (fun (h4 : (I 191 n) ≤ 0) => ?_) (fun (h4 : ¬ (I 191 n) ≤ 0) => ?_)
          · refine ex_st 2 (pc' := 24) (ls' := [(3, xi 0), (0, xr 143), (1, xi (↑n)), (2, xi (↑i))]) (st' := []) rfl ?_
            refine lp_mjudge (c := c) (t := n) (s := z) (i := i) (vo := fun p => I 146 p) (by omega) (by omega) (by omega) (by omega) (by omega) (by omega) (by omega) (fun p hp => rfl) 0 (by omega) ?_
            exact ⟨x_req (by first | rfl | omega), _, _, rfl, hR⟩
          · exfalso; omega
        · exfalso; omega
      · exfalso; omega
  · exfalso; omega
theorem op_judge_1 {sc : List Int} {I : Nat → Nat → Int} {L : Nat → Nat → Int64} (hR : Rl I L) {t i : Int} (ht : x_R t) (hi0 : x_R i) (hi : i < 0 ∨ ¬ (0 ≤ t ∧ t < 6)) : x_PQ sc xN_G_judge [xr 0, xi t, xi i] xN_m_judge [xr 143, xi t, xi i] (xSH, I, L) := by
  obtain ⟨⟨hNs, hNo, hNa, hNb, hNr, hNd, hNg, hNe, hNp, hNk⟩, hI, hT, hX, hC, hH, hQ⟩ := id hR
  have hs := hNs
  unfold RNs at hs
  by_cases hv : 0 ≤ t ∧ t < 6
  · obtain ⟨n, rfl⟩ := Int.eq_ofNat_of_zero_le hv.1
    have hq := hQ n (by omega)
    refine x_CQ.of (M := xM_G_judge) rfl (Nat.le_of_ble_eq_true rfl) ?_
    refine ex_st 1 (pc' := 1) (ls' := [(0, xr 0), (1, xi (↑n)), (2, xi i)]) (st' := [xi (↑n)]) rfl ?_
    refine ex_call (ct_G_isTape (by first | omega | (constructor <;> omega) | assumption)) (by decide) rfl ⟨rfl, rfl, rfl⟩ ⟨Nat.le_of_ble_eq_true rfl, rfl, rfl⟩ (Nat.le_of_ble_eq_true rfl) rfl ?_
    refine ex_bne rfl (fun h0 => ?_) (fun h0 => ?_)
    · refine ex_st 3 (pc' := 14) (ls' := [(0, xr 0), (1, xi (↑n)), (2, xi i)]) (st' := [xi (↑n), xr 106]) rfl ?_
      refine ex_aald (q := 131 + 2 * n) (j := n) rfl (by decide) (rfl : xSH[106]? = some _) (by decide) (by omega) (by omega) (by decide) (x_aa106 n (by omega)) (by omega) ?_
      refine ex_st 2 (pc' := 17) (ls' := [(3, xr (131 + 2 * n)), (0, xr 0), (1, xi (↑n)), (2, xi i)]) (st' := [xr (131 + 2 * n)]) rfl ?_
      refine ex_inl (M' := xM_Tp_holds) (as := [xr (131 + 2 * n)]) (rest := []) (D' := 28) rfl (Nat.le_of_ble_eq_true rfl) (by decide) rfl ⟨rfl, rfl, rfl⟩ ⟨Nat.le_of_ble_eq_true rfl, rfl, rfl⟩ (Nat.le_of_ble_eq_true rfl) (x_recv_v (by omega) (x_tsh n (by omega)).1 (by decide)) ?_
      refine ex_st 1 (pc' := 1) (ls' := [(0, xr (131 + 2 * n))]) (st' := [xr (131 + 2 * n)]) rfl ?_
      refine ex_gfi rfl (by omega) (x_tsh n (by omega)).1 (by decide) (by decide) rfl ?_
      refine ex_st 1 (pc' := 5) (ls' := [(0, xr (131 + 2 * n))]) (st' := [xi (-1), xi (I (131 + 2 * n) 0)]) rfl ?_
      refine ex_ic rfl (by first | omega | (constructor <;> omega) | assumption) (by decide) (fun (h1 : (I (131 + 2 * n) 0) = (-1)) => ?_) (fun (h1 : ¬ (I (131 + 2 * n) 0) = (-1)) => ?_)
      · refine ex_st 1 (pc' := 13) (ls' := [(0, xr (131 + 2 * n))]) (st' := [xi 0]) rfl ?_
        refine ex_retz rfl (Or.inl rfl) rfl ?_
        refine ex_st 1 (pc' := 33) (ls' := [(3, xr (131 + 2 * n)), (0, xr 0), (1, xi (↑n)), (2, xi i)]) (st' := []) rfl ?_
        refine ex_st 6 (pc' := 45) (ls' := [(4, xi 0), (3, xr (131 + 2 * n)), (0, xr 0), (1, xi (↑n)), (2, xi i)]) (st' := [xi (I 1 1), xi 0]) rfl ?_
        refine ex_ic rfl (by decide) (by first | omega | (constructor <;> omega) | assumption) (fun (h2 : (I 1 1) ≤ 0) => ?_) (fun (h2 : ¬ (I 1 1) ≤ 0) => ?_)
        · refine ex_st 1 (pc' := 107) (ls' := [(4, xi 0), (3, xr (131 + 2 * n)), (0, xr 0), (1, xi (↑n)), (2, xi i)]) (st' := [xi (-5)]) rfl ?_
          refine ex_reti rfl rfl ?_
          refine x_CQ.of (M := xM_m_judge) rfl (Nat.le_of_ble_eq_true rfl) ?_
          refine ex_st 2 (pc' := 2) (ls' := [(0, xr 143), (1, xi (↑n)), (2, xi i)]) (st' := [xi (↑n), xr 143]) rfl ?_
          refine ex_call (ct_m_isTape (by first | omega | (constructor <;> omega) | assumption)) (by decide) rfl ⟨rfl, rfl, rfl⟩ ⟨Nat.le_of_ble_eq_true rfl, rfl, rfl⟩ (Nat.le_of_ble_eq_true rfl) rfl ?_
          refine ex_bne rfl (fun h3 => ?_) (fun h3 => ?_)
          · refine ex_st 3 (pc' := 15) (ls' := [(0, xr 143), (1, xi (↑n)), (2, xi i)]) (st' := [xi (↑n), xr 191]) rfl ?_
            refine ex_iald (j := n) rfl (by decide) (rfl : xSH[191]? = some _) (by omega) (by omega) (by decide) ?_
            refine ex_if rfl (by first | omega | (constructor <;> omega) | assumption) (fun (h4 : (I 191 n) ≤ 0) => ?_) (fun (h4 : ¬ (I 191 n) ≤ 0) => ?_)
            · refine ex_st 5 (pc' := 29) (ls' := [(3, xi 0), (0, xr 143), (1, xi (↑n)), (2, xi i)]) (st' := [xi (I 143 0), xi 0]) rfl ?_
              refine ex_ic rfl (by decide) (by first | omega | (constructor <;> omega) | assumption) (fun (h5 : (I 143 0) ≤ 0) => ?_) (fun (h5 : ¬ (I 143 0) ≤ 0) => ?_)
              · refine ex_st 1 (pc' := 98) (ls' := [(3, xi 0), (0, xr 143), (1, xi (↑n)), (2, xi i)]) (st' := [xi (-5)]) rfl ?_
                refine ex_reti rfl rfl ?_
                exact ⟨x_req (by first | rfl | omega), _, _, rfl, hR⟩
              · exfalso; omega
            · exfalso; omega
          · exfalso; omega
        · refine ex_st 1 (pc' := 49) (ls' := [(4, xi 0), (3, xr (131 + 2 * n)), (0, xr 0), (1, xi (↑n)), (2, xi i)]) (st' := [xi i]) rfl ?_
          refine ex_if rfl (by first | omega | (constructor <;> omega) | assumption) (fun (h6 : i < 0) => ?_) (fun (h6 : ¬ i < 0) => ?_)
          · refine ex_st 3 (pc' := 68) (ls' := [(4, xi 0), (3, xr (131 + 2 * n)), (0, xr 0), (1, xi (↑n)), (2, xi i)]) (st' := [xi 100]) rfl ?_
            refine ex_reti rfl rfl ?_
            refine x_CQ.of (M := xM_m_judge) rfl (Nat.le_of_ble_eq_true rfl) ?_
            refine ex_st 2 (pc' := 2) (ls' := [(0, xr 143), (1, xi (↑n)), (2, xi i)]) (st' := [xi (↑n), xr 143]) rfl ?_
            refine ex_call (ct_m_isTape (by first | omega | (constructor <;> omega) | assumption)) (by decide) rfl ⟨rfl, rfl, rfl⟩ ⟨Nat.le_of_ble_eq_true rfl, rfl, rfl⟩ (Nat.le_of_ble_eq_true rfl) rfl ?_
            refine ex_bne rfl (fun h7 => ?_) (fun h7 => ?_)
            · refine ex_st 3 (pc' := 15) (ls' := [(0, xr 143), (1, xi (↑n)), (2, xi i)]) (st' := [xi (↑n), xr 191]) rfl ?_
              refine ex_iald (j := n) rfl (by decide) (rfl : xSH[191]? = some _) (by omega) (by omega) (by decide) ?_
              refine ex_if rfl (by first | omega | (constructor <;> omega) | assumption) (fun (h8 : (I 191 n) ≤ 0) => ?_) (fun (h8 : ¬ (I 191 n) ≤ 0) => ?_)
              · refine ex_st 5 (pc' := 29) (ls' := [(3, xi 0), (0, xr 143), (1, xi (↑n)), (2, xi i)]) (st' := [xi (I 143 0), xi 0]) rfl ?_
                refine ex_ic rfl (by decide) (by first | omega | (constructor <;> omega) | assumption) (fun (h9 : (I 143 0) ≤ 0) => ?_) (fun (h9 : ¬ (I 143 0) ≤ 0) => ?_)
                · exfalso; omega
                · refine ex_st 3 (pc' := 37) (ls' := [(3, xi 0), (0, xr 143), (1, xi (↑n)), (2, xi i)]) (st' := [xi (↑n), xr 191]) rfl ?_
                  refine ex_iald (j := n) rfl (by decide) (rfl : xSH[191]? = some _) (by omega) (by omega) (by decide) ?_
                  refine ex_if rfl (by first | omega | (constructor <;> omega) | assumption) (fun (h10 : (I 191 n) < 0) => ?_) (fun (h10 : ¬ (I 191 n) < 0) => ?_)
                  · refine ex_st 3 (pc' := 63) (ls' := [(3, xi 0), (0, xr 143), (1, xi (↑n)), (2, xi i)]) (st' := [xi 100]) rfl ?_
                    refine ex_reti rfl rfl ?_
                    exact ⟨x_req (by first | rfl | omega), _, _, rfl, hR⟩
                  · exfalso; omega
              · exfalso; omega
            · exfalso; omega
          · exfalso; omega
      · refine ex_st 2 (pc' := 13) (ls' := [(0, xr (131 + 2 * n))]) (st' := [xi 1]) rfl ?_
        refine ex_retz rfl (Or.inr rfl) rfl ?_
        refine ex_st 1 (pc' := 23) (ls' := [(3, xr (131 + 2 * n)), (0, xr 0), (1, xi (↑n)), (2, xi i)]) (st' := []) rfl ?_
        refine ex_st 1 (pc' := 24) (ls' := [(3, xr (131 + 2 * n)), (0, xr 0), (1, xi (↑n)), (2, xi i)]) (st' := [xr (131 + 2 * n)]) rfl ?_
        refine ex_gfi rfl (by omega) (x_tsh n (by omega)).1 (by decide) (by decide) rfl ?_
        refine ex_if rfl (by first | omega | (constructor <;> omega) | assumption) (fun (h11 : (I (131 + 2 * n) 0) = 0) => ?_) (fun (h11 : ¬ (I (131 + 2 * n) 0) = 0) => ?_)
        · refine ex_st 6 (pc' := 45) (ls' := [(4, xi 0), (3, xr (131 + 2 * n)), (0, xr 0), (1, xi (↑n)), (2, xi i)]) (st' := [xi (I 1 1), xi 0]) rfl ?_
          refine ex_ic rfl (by decide) (by first | omega | (constructor <;> omega) | assumption) (fun (h12 : (I 1 1) ≤ 0) => ?_) (fun (h12 : ¬ (I 1 1) ≤ 0) => ?_)
          · refine ex_st 1 (pc' := 107) (ls' := [(4, xi 0), (3, xr (131 + 2 * n)), (0, xr 0), (1, xi (↑n)), (2, xi i)]) (st' := [xi (-5)]) rfl ?_
            refine ex_reti rfl rfl ?_
            refine x_CQ.of (M := xM_m_judge) rfl (Nat.le_of_ble_eq_true rfl) ?_
            refine ex_st 2 (pc' := 2) (ls' := [(0, xr 143), (1, xi (↑n)), (2, xi i)]) (st' := [xi (↑n), xr 143]) rfl ?_
            refine ex_call (ct_m_isTape (by first | omega | (constructor <;> omega) | assumption)) (by decide) rfl ⟨rfl, rfl, rfl⟩ ⟨Nat.le_of_ble_eq_true rfl, rfl, rfl⟩ (Nat.le_of_ble_eq_true rfl) rfl ?_
            refine ex_bne rfl (fun h13 => ?_) (fun h13 => ?_)
            · refine ex_st 3 (pc' := 15) (ls' := [(0, xr 143), (1, xi (↑n)), (2, xi i)]) (st' := [xi (↑n), xr 191]) rfl ?_
              refine ex_iald (j := n) rfl (by decide) (rfl : xSH[191]? = some _) (by omega) (by omega) (by decide) ?_
              refine ex_if rfl (by first | omega | (constructor <;> omega) | assumption) (fun (h14 : (I 191 n) ≤ 0) => ?_) (fun (h14 : ¬ (I 191 n) ≤ 0) => ?_)
              · refine ex_st 5 (pc' := 29) (ls' := [(3, xi 0), (0, xr 143), (1, xi (↑n)), (2, xi i)]) (st' := [xi (I 143 0), xi 0]) rfl ?_
                refine ex_ic rfl (by decide) (by first | omega | (constructor <;> omega) | assumption) (fun (h15 : (I 143 0) ≤ 0) => ?_) (fun (h15 : ¬ (I 143 0) ≤ 0) => ?_)
                · refine ex_st 1 (pc' := 98) (ls' := [(3, xi 0), (0, xr 143), (1, xi (↑n)), (2, xi i)]) (st' := [xi (-5)]) rfl ?_
                  refine ex_reti rfl rfl ?_
                  exact ⟨x_req (by first | rfl | omega), _, _, rfl, hR⟩
                · exfalso; omega
              · exfalso; omega
            · exfalso; omega
          · refine ex_st 1 (pc' := 49) (ls' := [(4, xi 0), (3, xr (131 + 2 * n)), (0, xr 0), (1, xi (↑n)), (2, xi i)]) (st' := [xi i]) rfl ?_
            refine ex_if rfl (by first | omega | (constructor <;> omega) | assumption) (fun (h16 : i < 0) => ?_) (fun (h16 : ¬ i < 0) => ?_)
            · refine ex_st 3 (pc' := 68) (ls' := [(4, xi 0), (3, xr (131 + 2 * n)), (0, xr 0), (1, xi (↑n)), (2, xi i)]) (st' := [xi 100]) rfl ?_
              refine ex_reti rfl rfl ?_
              refine x_CQ.of (M := xM_m_judge) rfl (Nat.le_of_ble_eq_true rfl) ?_
              refine ex_st 2 (pc' := 2) (ls' := [(0, xr 143), (1, xi (↑n)), (2, xi i)]) (st' := [xi (↑n), xr 143]) rfl ?_
              refine ex_call (ct_m_isTape (by first | omega | (constructor <;> omega) | assumption)) (by decide) rfl ⟨rfl, rfl, rfl⟩ ⟨Nat.le_of_ble_eq_true rfl, rfl, rfl⟩ (Nat.le_of_ble_eq_true rfl) rfl ?_
              refine ex_bne rfl (fun h17 => ?_) (fun h17 => ?_)
              · refine ex_st 3 (pc' := 15) (ls' := [(0, xr 143), (1, xi (↑n)), (2, xi i)]) (st' := [xi (↑n), xr 191]) rfl ?_
                refine ex_iald (j := n) rfl (by decide) (rfl : xSH[191]? = some _) (by omega) (by omega) (by decide) ?_
                refine ex_if rfl (by first | omega | (constructor <;> omega) | assumption) (fun (h18 : (I 191 n) ≤ 0) => ?_) (fun (h18 : ¬ (I 191 n) ≤ 0) => ?_)
                · refine ex_st 5 (pc' := 29) (ls' := [(3, xi 0), (0, xr 143), (1, xi (↑n)), (2, xi i)]) (st' := [xi (I 143 0), xi 0]) rfl ?_
                  refine ex_ic rfl (by decide) (by first | omega | (constructor <;> omega) | assumption) (fun (h19 : (I 143 0) ≤ 0) => ?_) (fun (h19 : ¬ (I 143 0) ≤ 0) => ?_)
                  · exfalso; omega
                  · refine ex_st 3 (pc' := 37) (ls' := [(3, xi 0), (0, xr 143), (1, xi (↑n)), (2, xi i)]) (st' := [xi (↑n), xr 191]) rfl ?_
                    refine ex_iald (j := n) rfl (by decide) (rfl : xSH[191]? = some _) (by omega) (by omega) (by decide) ?_
                    refine ex_if rfl (by first | omega | (constructor <;> omega) | assumption) (fun (h20 : (I 191 n) < 0) => ?_) (fun (h20 : ¬ (I 191 n) < 0) => ?_)
                    · exfalso; omega
                    · refine ex_st 1 (pc' := 42) (ls' := [(3, xi 0), (0, xr 143), (1, xi (↑n)), (2, xi i)]) (st' := [xi i]) rfl ?_
                      refine ex_if rfl (by first | omega | (constructor <;> omega) | assumption) (fun (h21 : i < 0) => ?_) (fun (h21 : ¬ i < 0) => ?_)
                      · refine ex_st 3 (pc' := 63) (ls' := [(3, xi 0), (0, xr 143), (1, xi (↑n)), (2, xi i)]) (st' := [xi 100]) rfl ?_
                        refine ex_reti rfl rfl ?_
                        exact ⟨x_req (by first | rfl | omega), _, _, rfl, hR⟩
                      · exfalso; omega
                · exfalso; omega
              · exfalso; omega
            · exfalso; omega
        · refine ex_st 1 (pc' := 32) (ls' := [(3, xr (131 + 2 * n)), (0, xr 0), (1, xi (↑n)), (2, xi i)]) (st' := [xi (-12)]) rfl ?_
          refine ex_reti rfl rfl ?_
          refine x_CQ.of (M := xM_m_judge) rfl (Nat.le_of_ble_eq_true rfl) ?_
          refine ex_st 2 (pc' := 2) (ls' := [(0, xr 143), (1, xi (↑n)), (2, xi i)]) (st' := [xi (↑n), xr 143]) rfl ?_
          refine ex_call (ct_m_isTape (by first | omega | (constructor <;> omega) | assumption)) (by decide) rfl ⟨rfl, rfl, rfl⟩ ⟨Nat.le_of_ble_eq_true rfl, rfl, rfl⟩ (Nat.le_of_ble_eq_true rfl) rfl ?_
          refine ex_bne rfl (fun h22 => ?_) (fun h22 => ?_)
          · refine ex_st 3 (pc' := 15) (ls' := [(0, xr 143), (1, xi (↑n)), (2, xi i)]) (st' := [xi (↑n), xr 191]) rfl ?_
            refine ex_iald (j := n) rfl (by decide) (rfl : xSH[191]? = some _) (by omega) (by omega) (by decide) ?_
            refine ex_if rfl (by first | omega | (constructor <;> omega) | assumption) (fun (h23 : (I 191 n) ≤ 0) => ?_) (fun (h23 : ¬ (I 191 n) ≤ 0) => ?_)
            · exfalso; omega
            · refine ex_st 1 (pc' := 21) (ls' := [(0, xr 143), (1, xi (↑n)), (2, xi i)]) (st' := [xi (-12)]) rfl ?_
              refine ex_reti rfl rfl ?_
              exact ⟨x_req (by first | rfl | omega), _, _, rfl, hR⟩
          · exfalso; omega
    · exfalso; omega
  refine x_CQ.of (M := xM_G_judge) rfl (Nat.le_of_ble_eq_true rfl) ?_
  refine ex_st 1 (pc' := 1) (ls' := [(0, xr 0), (1, xi t), (2, xi i)]) (st' := [xi t]) rfl ?_
  refine ex_call (ct_G_isTape (by first | omega | (constructor <;> omega) | assumption)) (by decide) rfl ⟨rfl, rfl, rfl⟩ ⟨Nat.le_of_ble_eq_true rfl, rfl, rfl⟩ (Nat.le_of_ble_eq_true rfl) rfl ?_
  refine ex_bne rfl (fun h0 => ?_) (fun h0 => ?_)
  · exfalso; omega
  · refine ex_st 1 (pc' := 8) (ls' := [(0, xr 0), (1, xi t), (2, xi i)]) (st' := [xi (-1)]) rfl ?_
    refine ex_reti rfl rfl ?_
    refine x_CQ.of (M := xM_m_judge) rfl (Nat.le_of_ble_eq_true rfl) ?_
    refine ex_st 2 (pc' := 2) (ls' := [(0, xr 143), (1, xi t), (2, xi i)]) (st' := [xi t, xr 143]) rfl ?_
    refine ex_call (ct_m_isTape (by first | omega | (constructor <;> omega) | assumption)) (by decide) rfl ⟨rfl, rfl, rfl⟩ ⟨Nat.le_of_ble_eq_true rfl, rfl, rfl⟩ (Nat.le_of_ble_eq_true rfl) rfl ?_
    refine ex_bne rfl (fun h1 => ?_) (fun h1 => ?_)
    · exfalso; omega
    · refine ex_st 1 (pc' := 9) (ls' := [(0, xr 143), (1, xi t), (2, xi i)]) (st' := [xi (-1)]) rfl ?_
      refine ex_reti rfl rfl ?_
      exact ⟨x_req (by first | rfl | omega), _, _, rfl, hR⟩
theorem op_judge_2 {sc : List Int} {I : Nat → Nat → Int} {L : Nat → Nat → Int64} (hR : Rl I L) {n : Nat} {i : Int} (hn : n < 6) (hi0 : x_R i) (hi : 0 ≤ i) (hso : I 191 n ≠ 0) : x_PQ sc xN_G_judge [xr 0, xi (↑n), xi i] xN_m_judge [xr 143, xi (↑n), xi i] (xSH, I, L) := by
  obtain ⟨⟨hNs, hNo, hNa, hNb, hNr, hNd, hNg, hNe, hNp, hNk⟩, hI, hT, hX, hC, hH, hQ⟩ := id hR
  have hs := hNs
  unfold RNs at hs
  have hq := hQ n (by omega)
  refine x_CQ.of (M := xM_G_judge) rfl (Nat.le_of_ble_eq_true rfl) ?_
  refine ex_st 1 (pc' := 1) (ls' := [(0, xr 0), (1, xi (↑n)), (2, xi i)]) (st' := [xi (↑n)]) rfl ?_
  refine ex_call (ct_G_isTape (by first | omega | (constructor <;> omega) | assumption)) (by decide) rfl ⟨rfl, rfl, rfl⟩ ⟨Nat.le_of_ble_eq_true rfl, rfl, rfl⟩ (Nat.le_of_ble_eq_true rfl) rfl ?_
  refine ex_bne rfl (fun h0 => ?_) (fun h0 => ?_)
  · refine ex_st 3 (pc' := 14) (ls' := [(0, xr 0), (1, xi (↑n)), (2, xi i)]) (st' := [xi (↑n), xr 106]) rfl ?_
    refine ex_aald (q := 131 + 2 * n) (j := n) rfl (by decide) (rfl : xSH[106]? = some _) (by decide) (by omega) (by omega) (by decide) (x_aa106 n (by omega)) (by omega) ?_
    refine ex_st 2 (pc' := 17) (ls' := [(3, xr (131 + 2 * n)), (0, xr 0), (1, xi (↑n)), (2, xi i)]) (st' := [xr (131 + 2 * n)]) rfl ?_
    refine ex_inl (M' := xM_Tp_holds) (as := [xr (131 + 2 * n)]) (rest := []) (D' := 28) rfl (Nat.le_of_ble_eq_true rfl) (by decide) rfl ⟨rfl, rfl, rfl⟩ ⟨Nat.le_of_ble_eq_true rfl, rfl, rfl⟩ (Nat.le_of_ble_eq_true rfl) (x_recv_v (by omega) (x_tsh n (by omega)).1 (by decide)) ?_
    refine ex_st 1 (pc' := 1) (ls' := [(0, xr (131 + 2 * n))]) (st' := [xr (131 + 2 * n)]) rfl ?_
    refine ex_gfi rfl (by omega) (x_tsh n (by omega)).1 (by decide) (by decide) rfl ?_
    refine ex_st 1 (pc' := 5) (ls' := [(0, xr (131 + 2 * n))]) (st' := [xi (-1), xi (I (131 + 2 * n) 0)]) rfl ?_
    refine ex_ic rfl (by first | omega | (constructor <;> omega) | assumption) (by decide) (fun (h1 : (I (131 + 2 * n) 0) = (-1)) => ?_) (fun (h1 : ¬ (I (131 + 2 * n) 0) = (-1)) => ?_)
    · refine ex_st 1 (pc' := 13) (ls' := [(0, xr (131 + 2 * n))]) (st' := [xi 0]) rfl ?_
      refine ex_retz rfl (Or.inl rfl) rfl ?_
      refine ex_st 1 (pc' := 33) (ls' := [(3, xr (131 + 2 * n)), (0, xr 0), (1, xi (↑n)), (2, xi i)]) (st' := []) rfl ?_
      refine ex_st 6 (pc' := 45) (ls' := [(4, xi 0), (3, xr (131 + 2 * n)), (0, xr 0), (1, xi (↑n)), (2, xi i)]) (st' := [xi (I 1 1), xi 0]) rfl ?_
      refine ex_ic rfl (by decide) (by first | omega | (constructor <;> omega) | assumption) (fun (h2 : (I 1 1) ≤ 0) => ?_) (fun (h2 : ¬ (I 1 1) ≤ 0) => ?_)
      · refine ex_st 1 (pc' := 107) (ls' := [(4, xi 0), (3, xr (131 + 2 * n)), (0, xr 0), (1, xi (↑n)), (2, xi i)]) (st' := [xi (-5)]) rfl ?_
        refine ex_reti rfl rfl ?_
        refine x_CQ.of (M := xM_m_judge) rfl (Nat.le_of_ble_eq_true rfl) ?_
        refine ex_st 2 (pc' := 2) (ls' := [(0, xr 143), (1, xi (↑n)), (2, xi i)]) (st' := [xi (↑n), xr 143]) rfl ?_
        refine ex_call (ct_m_isTape (by first | omega | (constructor <;> omega) | assumption)) (by decide) rfl ⟨rfl, rfl, rfl⟩ ⟨Nat.le_of_ble_eq_true rfl, rfl, rfl⟩ (Nat.le_of_ble_eq_true rfl) rfl ?_
        refine ex_bne rfl (fun h3 => ?_) (fun h3 => ?_)
        · refine ex_st 3 (pc' := 15) (ls' := [(0, xr 143), (1, xi (↑n)), (2, xi i)]) (st' := [xi (↑n), xr 191]) rfl ?_
          refine ex_iald (j := n) rfl (by decide) (rfl : xSH[191]? = some _) (by omega) (by omega) (by decide) ?_
          refine ex_if rfl (by first | omega | (constructor <;> omega) | assumption) (fun (h4 : (I 191 n) ≤ 0) => ?_) (fun (h4 : ¬ (I 191 n) ≤ 0) => ?_)
          · refine ex_st 5 (pc' := 29) (ls' := [(3, xi 0), (0, xr 143), (1, xi (↑n)), (2, xi i)]) (st' := [xi (I 143 0), xi 0]) rfl ?_
            refine ex_ic rfl (by decide) (by first | omega | (constructor <;> omega) | assumption) (fun (h5 : (I 143 0) ≤ 0) => ?_) (fun (h5 : ¬ (I 143 0) ≤ 0) => ?_)
            · refine ex_st 1 (pc' := 98) (ls' := [(3, xi 0), (0, xr 143), (1, xi (↑n)), (2, xi i)]) (st' := [xi (-5)]) rfl ?_
              refine ex_reti rfl rfl ?_
              exact ⟨x_req (by first | rfl | omega), _, _, rfl, hR⟩
            · exfalso; omega
          · exfalso; omega
        · exfalso; omega
      · refine ex_st 1 (pc' := 49) (ls' := [(4, xi 0), (3, xr (131 + 2 * n)), (0, xr 0), (1, xi (↑n)), (2, xi i)]) (st' := [xi i]) rfl ?_
        refine ex_if rfl (by first | omega | (constructor <;> omega) | assumption) (fun (h6 : i < 0) => ?_) (fun (h6 : ¬ i < 0) => ?_)
        · exfalso; omega
        · refine ex_st 2 (pc' := 54) (ls' := [(4, xi 0), (3, xr (131 + 2 * n)), (0, xr 0), (1, xi (↑n)), (2, xi i)]) (st' := [xr (131 + 2 * n), xi i]) rfl ?_
          refine ex_gfi rfl (by omega) (x_tsh n (by omega)).1 (by decide) (by decide) rfl ?_
          refine ex_st 2 (pc' := 60) (ls' := [(4, xi 0), (3, xr (131 + 2 * n)), (0, xr 0), (1, xi (↑n)), (2, xi i)]) (st' := [xi ((I (131 + 2 * n) 1) - 0), xi i]) rfl ?_
          refine ex_ic rfl (by first | omega | (constructor <;> omega) | assumption) (by first | omega | (constructor <;> omega) | assumption) (fun (h7 : i < ((I (131 + 2 * n) 1) - 0)) => ?_) (fun (h7 : ¬ i < ((I (131 + 2 * n) 1) - 0)) => ?_)
          · exfalso; omega
          · refine ex_st 3 (pc' := 68) (ls' := [(4, xi 0), (3, xr (131 + 2 * n)), (0, xr 0), (1, xi (↑n)), (2, xi i)]) (st' := [xi 100]) rfl ?_
            refine ex_reti rfl rfl ?_
            refine x_CQ.of (M := xM_m_judge) rfl (Nat.le_of_ble_eq_true rfl) ?_
            refine ex_st 2 (pc' := 2) (ls' := [(0, xr 143), (1, xi (↑n)), (2, xi i)]) (st' := [xi (↑n), xr 143]) rfl ?_
            refine ex_call (ct_m_isTape (by first | omega | (constructor <;> omega) | assumption)) (by decide) rfl ⟨rfl, rfl, rfl⟩ ⟨Nat.le_of_ble_eq_true rfl, rfl, rfl⟩ (Nat.le_of_ble_eq_true rfl) rfl ?_
            refine ex_bne rfl (fun h8 => ?_) (fun h8 => ?_)
            · refine ex_st 3 (pc' := 15) (ls' := [(0, xr 143), (1, xi (↑n)), (2, xi i)]) (st' := [xi (↑n), xr 191]) rfl ?_
              refine ex_iald (j := n) rfl (by decide) (rfl : xSH[191]? = some _) (by omega) (by omega) (by decide) ?_
              refine ex_if rfl (by first | omega | (constructor <;> omega) | assumption) (fun (h9 : (I 191 n) ≤ 0) => ?_) (fun (h9 : ¬ (I 191 n) ≤ 0) => ?_)
              · refine ex_st 5 (pc' := 29) (ls' := [(3, xi 0), (0, xr 143), (1, xi (↑n)), (2, xi i)]) (st' := [xi (I 143 0), xi 0]) rfl ?_
                refine ex_ic rfl (by decide) (by first | omega | (constructor <;> omega) | assumption) (fun (h10 : (I 143 0) ≤ 0) => ?_) (fun (h10 : ¬ (I 143 0) ≤ 0) => ?_)
                · exfalso; omega
                · refine ex_st 3 (pc' := 37) (ls' := [(3, xi 0), (0, xr 143), (1, xi (↑n)), (2, xi i)]) (st' := [xi (↑n), xr 191]) rfl ?_
                  refine ex_iald (j := n) rfl (by decide) (rfl : xSH[191]? = some _) (by omega) (by omega) (by decide) ?_
                  refine ex_if rfl (by first | omega | (constructor <;> omega) | assumption) (fun (h11 : (I 191 n) < 0) => ?_) (fun (h11 : ¬ (I 191 n) < 0) => ?_)
                  · refine ex_st 3 (pc' := 63) (ls' := [(3, xi 0), (0, xr 143), (1, xi (↑n)), (2, xi i)]) (st' := [xi 100]) rfl ?_
                    refine ex_reti rfl rfl ?_
                    exact ⟨x_req (by first | rfl | omega), _, _, rfl, hR⟩
                  · exfalso; omega
              · exfalso; omega
            · exfalso; omega
    · refine ex_st 2 (pc' := 13) (ls' := [(0, xr (131 + 2 * n))]) (st' := [xi 1]) rfl ?_
      refine ex_retz rfl (Or.inr rfl) rfl ?_
      refine ex_st 1 (pc' := 23) (ls' := [(3, xr (131 + 2 * n)), (0, xr 0), (1, xi (↑n)), (2, xi i)]) (st' := []) rfl ?_
      refine ex_st 1 (pc' := 24) (ls' := [(3, xr (131 + 2 * n)), (0, xr 0), (1, xi (↑n)), (2, xi i)]) (st' := [xr (131 + 2 * n)]) rfl ?_
      refine ex_gfi rfl (by omega) (x_tsh n (by omega)).1 (by decide) (by decide) rfl ?_
      refine ex_if rfl (by first | omega | (constructor <;> omega) | assumption) (fun (h12 : (I (131 + 2 * n) 0) = 0) => ?_) (fun (h12 : ¬ (I (131 + 2 * n) 0) = 0) => ?_)
      · exfalso; omega
      · refine ex_st 1 (pc' := 32) (ls' := [(3, xr (131 + 2 * n)), (0, xr 0), (1, xi (↑n)), (2, xi i)]) (st' := [xi (-12)]) rfl ?_
        refine ex_reti rfl rfl ?_
        refine x_CQ.of (M := xM_m_judge) rfl (Nat.le_of_ble_eq_true rfl) ?_
        refine ex_st 2 (pc' := 2) (ls' := [(0, xr 143), (1, xi (↑n)), (2, xi i)]) (st' := [xi (↑n), xr 143]) rfl ?_
        refine ex_call (ct_m_isTape (by first | omega | (constructor <;> omega) | assumption)) (by decide) rfl ⟨rfl, rfl, rfl⟩ ⟨Nat.le_of_ble_eq_true rfl, rfl, rfl⟩ (Nat.le_of_ble_eq_true rfl) rfl ?_
        refine ex_bne rfl (fun h13 => ?_) (fun h13 => ?_)
        · refine ex_st 3 (pc' := 15) (ls' := [(0, xr 143), (1, xi (↑n)), (2, xi i)]) (st' := [xi (↑n), xr 191]) rfl ?_
          refine ex_iald (j := n) rfl (by decide) (rfl : xSH[191]? = some _) (by omega) (by omega) (by decide) ?_
          refine ex_if rfl (by first | omega | (constructor <;> omega) | assumption) (fun (h14 : (I 191 n) ≤ 0) => ?_) (fun (h14 : ¬ (I 191 n) ≤ 0) => ?_)
          · exfalso; omega
          · refine ex_st 1 (pc' := 21) (ls' := [(0, xr 143), (1, xi (↑n)), (2, xi i)]) (st' := [xi (-12)]) rfl ?_
            refine ex_reti rfl rfl ?_
            exact ⟨x_req (by first | rfl | omega), _, _, rfl, hR⟩
        · exfalso; omega
  · exfalso; omega
theorem op_judge_3 {sc : List Int} {I : Nat → Nat → Int} {L : Nat → Nat → Int64} (hR : Rl I L) {n : Nat} {i : Int} (hn : n < 6) (hi0 : x_R i) (hi : 100000 ≤ i) (hso : I 191 n = 0) : x_PQ sc xN_G_judge [xr 0, xi (↑n), xi i] xN_m_judge [xr 143, xi (↑n), xi i] (xSH, I, L) := by
  obtain ⟨⟨hNs, hNo, hNa, hNb, hNr, hNd, hNg, hNe, hNp, hNk⟩, hI, hT, hX, hC, hH, hQ⟩ := id hR
  have hs := hNs
  unfold RNs at hs
  have hq := hQ n (by omega)
  refine x_CQ.of (M := xM_G_judge) rfl (Nat.le_of_ble_eq_true rfl) ?_
  refine ex_st 1 (pc' := 1) (ls' := [(0, xr 0), (1, xi (↑n)), (2, xi i)]) (st' := [xi (↑n)]) rfl ?_
  refine ex_call (ct_G_isTape (by first | omega | (constructor <;> omega) | assumption)) (by decide) rfl ⟨rfl, rfl, rfl⟩ ⟨Nat.le_of_ble_eq_true rfl, rfl, rfl⟩ (Nat.le_of_ble_eq_true rfl) rfl ?_
  refine ex_bne rfl (fun h0 => ?_) (fun h0 => ?_)
  · refine ex_st 3 (pc' := 14) (ls' := [(0, xr 0), (1, xi (↑n)), (2, xi i)]) (st' := [xi (↑n), xr 106]) rfl ?_
    refine ex_aald (q := 131 + 2 * n) (j := n) rfl (by decide) (rfl : xSH[106]? = some _) (by decide) (by omega) (by omega) (by decide) (x_aa106 n (by omega)) (by omega) ?_
    refine ex_st 2 (pc' := 17) (ls' := [(3, xr (131 + 2 * n)), (0, xr 0), (1, xi (↑n)), (2, xi i)]) (st' := [xr (131 + 2 * n)]) rfl ?_
    refine ex_inl (M' := xM_Tp_holds) (as := [xr (131 + 2 * n)]) (rest := []) (D' := 28) rfl (Nat.le_of_ble_eq_true rfl) (by decide) rfl ⟨rfl, rfl, rfl⟩ ⟨Nat.le_of_ble_eq_true rfl, rfl, rfl⟩ (Nat.le_of_ble_eq_true rfl) (x_recv_v (by omega) (x_tsh n (by omega)).1 (by decide)) ?_
    refine ex_st 1 (pc' := 1) (ls' := [(0, xr (131 + 2 * n))]) (st' := [xr (131 + 2 * n)]) rfl ?_
    refine ex_gfi rfl (by omega) (x_tsh n (by omega)).1 (by decide) (by decide) rfl ?_
    refine ex_st 1 (pc' := 5) (ls' := [(0, xr (131 + 2 * n))]) (st' := [xi (-1), xi (I (131 + 2 * n) 0)]) rfl ?_
    refine ex_ic rfl (by first | omega | (constructor <;> omega) | assumption) (by decide) (fun (h1 : (I (131 + 2 * n) 0) = (-1)) => ?_) (fun (h1 : ¬ (I (131 + 2 * n) 0) = (-1)) => ?_)
    · exfalso; omega
    · refine ex_st 2 (pc' := 13) (ls' := [(0, xr (131 + 2 * n))]) (st' := [xi 1]) rfl ?_
      refine ex_retz rfl (Or.inr rfl) rfl ?_
      refine ex_st 1 (pc' := 23) (ls' := [(3, xr (131 + 2 * n)), (0, xr 0), (1, xi (↑n)), (2, xi i)]) (st' := []) rfl ?_
      refine ex_st 1 (pc' := 24) (ls' := [(3, xr (131 + 2 * n)), (0, xr 0), (1, xi (↑n)), (2, xi i)]) (st' := [xr (131 + 2 * n)]) rfl ?_
      refine ex_gfi rfl (by omega) (x_tsh n (by omega)).1 (by decide) (by decide) rfl ?_
      refine ex_if rfl (by first | omega | (constructor <;> omega) | assumption) (fun (h2 : (I (131 + 2 * n) 0) = 0) => ?_) (fun (h2 : ¬ (I (131 + 2 * n) 0) = 0) => ?_)
      · refine ex_st 6 (pc' := 45) (ls' := [(4, xi 0), (3, xr (131 + 2 * n)), (0, xr 0), (1, xi (↑n)), (2, xi i)]) (st' := [xi (I 1 1), xi 0]) rfl ?_
        refine ex_ic rfl (by decide) (by first | omega | (constructor <;> omega) | assumption) (fun (h3 : (I 1 1) ≤ 0) => ?_) (fun (h3 : ¬ (I 1 1) ≤ 0) => ?_)
        · refine ex_st 1 (pc' := 107) (ls' := [(4, xi 0), (3, xr (131 + 2 * n)), (0, xr 0), (1, xi (↑n)), (2, xi i)]) (st' := [xi (-5)]) rfl ?_
          refine ex_reti rfl rfl ?_
          refine x_CQ.of (M := xM_m_judge) rfl (Nat.le_of_ble_eq_true rfl) ?_
          refine ex_st 2 (pc' := 2) (ls' := [(0, xr 143), (1, xi (↑n)), (2, xi i)]) (st' := [xi (↑n), xr 143]) rfl ?_
          refine ex_call (ct_m_isTape (by first | omega | (constructor <;> omega) | assumption)) (by decide) rfl ⟨rfl, rfl, rfl⟩ ⟨Nat.le_of_ble_eq_true rfl, rfl, rfl⟩ (Nat.le_of_ble_eq_true rfl) rfl ?_
          refine ex_bne rfl (fun h4 => ?_) (fun h4 => ?_)
          · refine ex_st 3 (pc' := 15) (ls' := [(0, xr 143), (1, xi (↑n)), (2, xi i)]) (st' := [xi (↑n), xr 191]) rfl ?_
            refine ex_iald (j := n) rfl (by decide) (rfl : xSH[191]? = some _) (by omega) (by omega) (by decide) ?_
            refine ex_if rfl (by first | omega | (constructor <;> omega) | assumption) (fun (h5 : (I 191 n) ≤ 0) => ?_) (fun (h5 : ¬ (I 191 n) ≤ 0) => ?_)
            · refine ex_st 5 (pc' := 29) (ls' := [(3, xi 0), (0, xr 143), (1, xi (↑n)), (2, xi i)]) (st' := [xi (I 143 0), xi 0]) rfl ?_
              refine ex_ic rfl (by decide) (by first | omega | (constructor <;> omega) | assumption) (fun (h6 : (I 143 0) ≤ 0) => ?_) (fun (h6 : ¬ (I 143 0) ≤ 0) => ?_)
              · refine ex_st 1 (pc' := 98) (ls' := [(3, xi 0), (0, xr 143), (1, xi (↑n)), (2, xi i)]) (st' := [xi (-5)]) rfl ?_
                refine ex_reti rfl rfl ?_
                exact ⟨x_req (by first | rfl | omega), _, _, rfl, hR⟩
              · exfalso; omega
            · exfalso; omega
          · exfalso; omega
        · refine ex_st 1 (pc' := 49) (ls' := [(4, xi 0), (3, xr (131 + 2 * n)), (0, xr 0), (1, xi (↑n)), (2, xi i)]) (st' := [xi i]) rfl ?_
          refine ex_if rfl (by first | omega | (constructor <;> omega) | assumption) (fun (h7 : i < 0) => ?_) (fun (h7 : ¬ i < 0) => ?_)
          · exfalso; omega
          · refine ex_st 2 (pc' := 54) (ls' := [(4, xi 0), (3, xr (131 + 2 * n)), (0, xr 0), (1, xi (↑n)), (2, xi i)]) (st' := [xr (131 + 2 * n), xi i]) rfl ?_
            refine ex_gfi rfl (by omega) (x_tsh n (by omega)).1 (by decide) (by decide) rfl ?_
            refine ex_st 2 (pc' := 60) (ls' := [(4, xi 0), (3, xr (131 + 2 * n)), (0, xr 0), (1, xi (↑n)), (2, xi i)]) (st' := [xi ((I (131 + 2 * n) 1) - 0), xi i]) rfl ?_
            refine ex_ic rfl (by first | omega | (constructor <;> omega) | assumption) (by first | omega | (constructor <;> omega) | assumption) (fun (h8 : i < ((I (131 + 2 * n) 1) - 0)) => ?_) (fun (h8 : ¬ i < ((I (131 + 2 * n) 1) - 0)) => ?_)
            · exfalso; omega
            · refine ex_st 3 (pc' := 68) (ls' := [(4, xi 0), (3, xr (131 + 2 * n)), (0, xr 0), (1, xi (↑n)), (2, xi i)]) (st' := [xi 100]) rfl ?_
              refine ex_reti rfl rfl ?_
              refine x_CQ.of (M := xM_m_judge) rfl (Nat.le_of_ble_eq_true rfl) ?_
              refine ex_st 2 (pc' := 2) (ls' := [(0, xr 143), (1, xi (↑n)), (2, xi i)]) (st' := [xi (↑n), xr 143]) rfl ?_
              refine ex_call (ct_m_isTape (by first | omega | (constructor <;> omega) | assumption)) (by decide) rfl ⟨rfl, rfl, rfl⟩ ⟨Nat.le_of_ble_eq_true rfl, rfl, rfl⟩ (Nat.le_of_ble_eq_true rfl) rfl ?_
              refine ex_bne rfl (fun h9 => ?_) (fun h9 => ?_)
              · refine ex_st 3 (pc' := 15) (ls' := [(0, xr 143), (1, xi (↑n)), (2, xi i)]) (st' := [xi (↑n), xr 191]) rfl ?_
                refine ex_iald (j := n) rfl (by decide) (rfl : xSH[191]? = some _) (by omega) (by omega) (by decide) ?_
                refine ex_if rfl (by first | omega | (constructor <;> omega) | assumption) (fun (h10 : (I 191 n) ≤ 0) => ?_) (fun (h10 : ¬ (I 191 n) ≤ 0) => ?_)
                · refine ex_st 5 (pc' := 29) (ls' := [(3, xi 0), (0, xr 143), (1, xi (↑n)), (2, xi i)]) (st' := [xi (I 143 0), xi 0]) rfl ?_
                  refine ex_ic rfl (by decide) (by first | omega | (constructor <;> omega) | assumption) (fun (h11 : (I 143 0) ≤ 0) => ?_) (fun (h11 : ¬ (I 143 0) ≤ 0) => ?_)
                  · exfalso; omega
                  · refine ex_st 3 (pc' := 37) (ls' := [(3, xi 0), (0, xr 143), (1, xi (↑n)), (2, xi i)]) (st' := [xi (↑n), xr 191]) rfl ?_
                    refine ex_iald (j := n) rfl (by decide) (rfl : xSH[191]? = some _) (by omega) (by omega) (by decide) ?_
                    refine ex_if rfl (by first | omega | (constructor <;> omega) | assumption) (fun (h12 : (I 191 n) < 0) => ?_) (fun (h12 : ¬ (I 191 n) < 0) => ?_)
                    · exfalso; omega
                    · refine ex_st 1 (pc' := 42) (ls' := [(3, xi 0), (0, xr 143), (1, xi (↑n)), (2, xi i)]) (st' := [xi i]) rfl ?_
                      refine ex_if rfl (by first | omega | (constructor <;> omega) | assumption) (fun (h13 : i < 0) => ?_) (fun (h13 : ¬ i < 0) => ?_)
                      · exfalso; omega
                      · refine ex_st 4 (pc' := 51) (ls' := [(3, xi 0), (0, xr 143), (1, xi (↑n)), (2, xi i)]) (st' := [xi (↑n), xr 192, xi i]) rfl ?_
                        refine ex_iald (j := n) rfl (by decide) (rfl : xSH[192]? = some _) (by omega) (by omega) (by decide) ?_
                        refine ex_st 4 (pc' := 56) (ls' := [(3, xi 0), (0, xr 143), (1, xi (↑n)), (2, xi i)]) (st' := [xi (((I 192 n) - 0) - 1), xi i]) rfl ?_
                        refine ex_ic rfl (by first | omega | (constructor <;> omega) | assumption) (by first | omega | (constructor <;> omega) | assumption) (fun (h14 : i ≤ (((I 192 n) - 0) - 1)) => ?_) (fun (h14 : ¬ i ≤ (((I 192 n) - 0) - 1)) => ?_)
                        · exfalso; omega
                        · refine ex_st 3 (pc' := 63) (ls' := [(3, xi 0), (0, xr 143), (1, xi (↑n)), (2, xi i)]) (st' := [xi 100]) rfl ?_
                          refine ex_reti rfl rfl ?_
                          exact ⟨x_req (by first | rfl | omega), _, _, rfl, hR⟩
                · exfalso; omega
              · exfalso; omega
      · exfalso; omega
  · exfalso; omega
theorem op_judge {sc : List Int} {I : Nat → Nat → Int} {L : Nat → Nat → Int64} (hR : Rl I L) {t i : Int} (ht : x_R t) (hi0 : x_R i) : x_PQ sc xN_G_judge [xr 0, xi t, xi i] xN_m_judge [xr 143, xi t, xi i] (xSH, I, L) := by
  by_cases hi : i < 0 ∨ ¬ (0 ≤ t ∧ t < 6)
  · exact op_judge_1 hR ht hi0 hi
  · obtain ⟨n, rfl⟩ := Int.eq_ofNat_of_zero_le (show 0 ≤ t by omega)
    obtain ⟨i, rfl⟩ := Int.eq_ofNat_of_zero_le (show 0 ≤ i by omega)
    by_cases hso : I 191 n = 0
    · by_cases hi2 : i < 100000
      · exact op_judge_0 hR (by omega) hi2 hso
      · exact op_judge_3 hR (by omega) hi0 (by omega) hso
    · exact op_judge_2 hR (by omega) hi0 (by omega) hso
