/-! a world becomes another -/
theorem x_so29 (p : Nat) (hp : p < 6) : xSH[39 + 3 * p]? = some (2, 6, [none, none, none, none, some (39 + 3 * p + 1), some (39 + 3 * p + 2)]) ∧ xSH[39 + 3 * p + 1]? = some (20, 5, []) ∧ xSH[39 + 3 * p + 2]? = some (20, 4, []) := by
  rcases (show p = 0 ∨ p = 1 ∨ p = 2 ∨ p = 3 ∨ p = 4 ∨ p = 5 by omega) with rfl | rfl | rfl | rfl | rfl | rfl <;> exact ⟨rfl, rfl, rfl⟩
theorem x_aa30 (p : Nat) (hp : p < 6) : ([some 39, some 42, some 45, some 48, some 51, some 54] : List (Option Nat))[p]? = some (some (39 + 3 * p)) := by
  rcases (show p = 0 ∨ p = 1 ∨ p = 2 ∨ p = 3 ∨ p = 4 ∨ p = 5 by omega) with rfl | rfl | rfl | rfl | rfl | rfl <;> rfl
theorem x_so57 (p : Nat) (hp : p < 6) : xSH[67 + 3 * p]? = some (2, 6, [none, none, none, none, some (67 + 3 * p + 1), some (67 + 3 * p + 2)]) ∧ xSH[67 + 3 * p + 1]? = some (20, 5, []) ∧ xSH[67 + 3 * p + 2]? = some (20, 4, []) := by
  rcases (show p = 0 ∨ p = 1 ∨ p = 2 ∨ p = 3 ∨ p = 4 ∨ p = 5 by omega) with rfl | rfl | rfl | rfl | rfl | rfl <;> exact ⟨rfl, rfl, rfl⟩
theorem x_aa58 (p : Nat) (hp : p < 6) : ([some 67, some 70, some 73, some 76, some 79, some 82] : List (Option Nat))[p]? = some (some (67 + 3 * p)) := by
  rcases (show p = 0 ∨ p = 1 ∨ p = 2 ∨ p = 3 ∨ p = 4 ∨ p = 5 by omega) with rfl | rfl | rfl | rfl | rfl | rfl <;> rfl
theorem x_cpI_in {I : Nat → Nat → Int} {a sp b dp n k j : Nat} (h : k = b ∧ dp ≤ j ∧ j < dp + n) : x_cp I a sp b dp n k j = I a (sp + (j - dp)) := by
  unfold x_cp; rw [if_pos h.1, if_pos h.2]
theorem x_cpI_far {I : Nat → Nat → Int} {a sp b dp n k j : Nat} (h : ¬ (k = b ∧ dp ≤ j ∧ j < dp + n)) : x_cp I a sp b dp n k j = I k j := by
  unfold x_cp
  by_cases h1 : k = b
  · rw [if_pos h1, if_neg (fun h2 => h ⟨h1, h2⟩)]
  · rw [if_neg h1]
def WB29_1 (I I' : Nat → Nat → Int) : Prop := (∀ p, p < 6 → (∀ j, j < 4 → I' (39 + 3 * p) j = I (11 + 3 * p) j) ∧ (∀ j, j < 5 → I' (39 + 3 * p + 1) j = I (11 + 3 * p + 1) j) ∧ ∀ j, j < 4 → I' (39 + 3 * p + 2) j = I (11 + 3 * p + 2) j) ∧ (I' 29 1 = I 1 1 ∧ I' 29 4 = I 1 4 ∧ I' 29 5 = I 1 5 ∧ I' 29 6 = I 1 6 ∧ I' 29 7 = I 1 7) ∧ (∀ j, j < 5 → I' 31 j = I 3 j) ∧ (∀ j, j < 5 → I' 32 j = I 4 j) ∧ (I' 33 2 = I 5 2 ∧ ∀ j : Nat, (j : Int) < 4 * I 5 2 → I' 34 j = I 6 j) ∧ (I' 35 2 = I 7 2 ∧ ∀ j : Nat, (j : Int) < 4 * I 7 2 → I' 36 j = I 8 j) ∧ (I' 37 2 = I 9 2 ∧ ∀ j : Nat, (j : Int) < 4 * I 9 2 → I' 38 j = I 10 j) ∧ (I' 33 0 = I 33 0 ∧ I' 35 0 = I 35 0 ∧ I' 37 0 = I 37 0) ∧ ∀ k j, ¬ (29 ≤ k ∧ k ≤ 56) → I' k j = I k j
theorem lp_Wb29_1 {sc : List Int} {I : Nat → Nat → Int} {L : Nat → Nat → Int64} {Q : Option xPV → xMem → Prop} (h01 : ∀ p, p < 6 → I (11 + 3 * p) 3 = 0 ∨ I (11 + 3 * p) 3 = 1) (i : Nat) (hi : i ≤ 6) (kk : ∀ I' : Nat → Nat → Int, (∀ p, i ≤ p → p < 6 → (∀ j, j < 4 → I' (39 + 3 * p) j = I (11 + 3 * p) j) ∧ (∀ j, j < 5 → I' (39 + 3 * p + 1) j = I (11 + 3 * p + 1) j) ∧ ∀ j, j < 4 → I' (39 + 3 * p + 2) j = I (11 + 3 * p + 2) j) → (∀ k j, ¬ (39 + 3 * i ≤ k ∧ k ≤ 56) → I' k j = I k j) → x_Ex sc 2 xM_W_become 29 [(2, xi 6), (0, xr 29), (1, xr 1)] [] (xSH, I', L) Q) : x_Ex sc 2 xM_W_become 2 [(2, xi (↑i)), (0, xr 29), (1, xr 1)] [] (xSH, I, L) Q := by
  refine ex_st 2 (pc' := 5) (ls' := [(2, xi (↑i)), (0, xr 29), (1, xr 1)]) (st' := [xi 6, xi (↑i)]) rfl ?_
  refine ex_ic rfl (by constructor <;> omega) (by decide) (fun (h0 : ((6 : Int)) ≤ (↑i : Int)) => ?_) (fun (h0 : ¬ ((6 : Int)) ≤ (↑i : Int)) => ?_)
  · obtain rfl : i = 6 := by omega
    exact kk I (fun p a b => by omega) (fun _ _ _ => rfl)
  · refine ex_st 3 (pc' := 13) (ls' := [(2, xi (↑i)), (0, xr 29), (1, xr 1)]) (st' := [xi (↑i), xr 30]) rfl ?_
    refine ex_aald (q := 39 + 3 * i) (j := i) rfl (by decide) (rfl : xSH[30]? = some _) (by decide) (by omega) (by omega) (by decide) (x_aa30 i (by omega)) (by omega) ?_
    refine ex_st 3 (pc' := 19) (ls' := [(2, xi (↑i)), (0, xr 29), (1, xr 1)]) (st' := [xi (↑i), xr 2, xr (39 + 3 * i)]) rfl ?_
    refine ex_aald (q := 11 + 3 * i) (j := i) rfl (by decide) (rfl : xSH[2]? = some _) (by decide) (by omega) (by omega) (by decide) (x_aa2 i (by omega)) (by omega) ?_
    refine ex_callQ (ct_O_become (x_so29 i (by omega)).1 (x_so29 i (by omega)).2.1 (x_so29 i (by omega)).2.2 (by omega) (x_so1 i (by omega)).1 (x_so1 i (by omega)).2.1 (x_so1 i (by omega)).2.2 (by omega) (by omega) (h01 i (by omega))) (by decide) rfl ⟨rfl, rfl, rfl⟩ ⟨Nat.le_of_ble_eq_true rfl, rfl, rfl⟩ (Nat.le_of_ble_eq_true rfl) (x_recv_v (by omega) (x_so29 i (by omega)).1 (by decide)) (fun ra m2 hQ => ?_)
    obtain ⟨rfl, I1, rfl, q1, q2, q3, q4⟩ := hQ
    refine ex_st 2 (pc' := 2) (ls' := [(2, xi ((↑i) + 1)), (0, xr 29), (1, xr 1)]) (st' := []) rfl ?_
    refine lp_Wb29_1 (fun p hp => ?_) (i + 1) (by omega) (fun I' h1 h2 => kk I' (fun p hp1 hp2 => ?_) (fun k j hk => ?_))
    · rw [q4 _ _ (by omega) (by omega) (by omega)]; exact h01 p hp
    · by_cases e : p = i
      · subst e; refine ⟨fun j hj => ?_, fun j hj => ?_, fun j hj => ?_⟩
        · rw [h2 _ _ (by omega)]; exact q1 j hj
        · rw [h2 _ _ (by omega)]; exact q2 j hj
        · rw [h2 _ _ (by omega)]; exact q3 j hj
      · obtain ⟨z1, z2, z3⟩ := h1 p (by omega) hp2
        refine ⟨fun j hj => ?_, fun j hj => ?_, fun j hj => ?_⟩
        · rw [z1 j hj]; exact q4 _ _ (by omega) (by omega) (by omega)
        · rw [z2 j hj]; exact q4 _ _ (by omega) (by omega) (by omega)
        · rw [z3 j hj]; exact q4 _ _ (by omega) (by omega) (by omega)
    · rw [h2 _ _ (by omega)]; exact q4 _ _ (by omega) (by omega) (by omega)
termination_by 6 - i
decreasing_by all_goals omega
set_option maxRecDepth 8000 in
set_option maxHeartbeats 4000000 in
theorem ct_W_become29_1 {sc : List Int} {I : Nat → Nat → Int} {L : Nat → Nat → Int64} (h01 : ∀ p, p < 6 → I (11 + 3 * p) 3 = 0 ∨ I (11 + 3 * p) 3 = 1) (hze : 0 ≤ I 5 2 ∧ I 5 2 ≤ 5) (hzp : 0 ≤ I 7 2 ∧ I 7 2 ≤ 10) (hzk : 0 ≤ I 9 2 ∧ I 9 2 ≤ 8) : x_CQ sc 3 xN_W_become [xr 29, xr 1] (xSH, I, L) (fun r m' => r = none ∧ ∃ I', m' = (xSH, I', L) ∧ WB29_1 I I') := by
  refine x_CQ.of (M := xM_W_become) rfl (Nat.le_of_ble_eq_true rfl) ?_
  refine ex_st 2 (pc' := 2) (ls' := [(2, xi 0), (0, xr 29), (1, xr 1)]) (st' := []) rfl ?_
  refine lp_Wb29_1 h01 0 (by decide) (fun I1 u1 u2 => ?_)
  refine ex_st 3 (pc' := 34) (ls' := [(2, xi 6), (0, xr 29), (1, xr 1)]) (st' := [xi (I1 1 1), xr 29]) rfl ?_
  rw [(u2 _ _ (by omega) : I1 1 1 = I 1 1)]
  refine ex_pfi rfl (by decide) (rfl : xSH[29]? = some _) (by decide) rfl (by decide) (fun h => by cases h) ?_
  refine ex_st 7 (pc' := 48) (ls' := [(2, xi 6), (0, xr 29), (1, xr 1)]) (st' := [xi 5, xi 0, xr 31, xi 0, xr 3]) rfl ?_
  refine ex_cpy (nn := 5) (sn := 0) (dn := 0) rfl ⟨(by decide), (by decide)⟩ (rfl : xSH[3]? = some _) (rfl : xSH[31]? = some _) ⟨(by decide), (by decide), (by decide)⟩ (by decide) ⟨by omega, by decide⟩ ⟨by omega, by decide⟩ ?_
  refine ex_st 7 (pc' := 62) (ls' := [(2, xi 6), (0, xr 29), (1, xr 1)]) (st' := [xi 5, xi 0, xr 32, xi 0, xr 4]) rfl ?_
  refine ex_cpy (nn := 5) (sn := 0) (dn := 0) rfl ⟨(by decide), (by decide)⟩ (rfl : xSH[4]? = some _) (rfl : xSH[32]? = some _) ⟨(by decide), (by decide), (by decide)⟩ (by decide) ⟨by omega, by decide⟩ ⟨by omega, by decide⟩ ?_
  refine ex_st 3 (pc' := 70) (ls' := [(2, xi 6), (0, xr 29), (1, xr 1)]) (st' := [xi ((x_cp (x_cp (x_up I1 29 1 (I 1 1)) 3 0 31 0 5) 4 0 32 0 5) 1 4), xr 29]) rfl ?_
  refine ex_pfi rfl (by decide) (rfl : xSH[29]? = some _) (by decide) rfl (by decide) (fun h => by cases h) ?_
  refine ex_st 3 (pc' := 78) (ls' := [(2, xi 6), (0, xr 29), (1, xr 1)]) (st' := [xi ((x_up (x_cp (x_cp (x_up I1 29 1 (I 1 1)) 3 0 31 0 5) 4 0 32 0 5) 29 4 ((x_cp (x_cp (x_up I1 29 1 (I 1 1)) 3 0 31 0 5) 4 0 32 0 5) 1 4)) 1 5), xr 29]) rfl ?_
  rw [(x_up_far (by first | decide | omega) : (x_up (x_cp (x_cp (x_up I1 29 1 (I 1 1)) 3 0 31 0 5) 4 0 32 0 5) 29 4 ((x_cp (x_cp (x_up I1 29 1 (I 1 1)) 3 0 31 0 5) 4 0 32 0 5) 1 4)) 1 5 = (x_cp (x_cp (x_up I1 29 1 (I 1 1)) 3 0 31 0 5) 4 0 32 0 5) 1 5)]
  refine ex_pfi rfl (by decide) (rfl : xSH[29]? = some _) (by decide) rfl (by decide) (fun h => by cases h) ?_
  refine ex_st 3 (pc' := 86) (ls' := [(2, xi 6), (0, xr 29), (1, xr 1)]) (st' := [xi ((x_up (x_up (x_cp (x_cp (x_up I1 29 1 (I 1 1)) 3 0 31 0 5) 4 0 32 0 5) 29 4 ((x_cp (x_cp (x_up I1 29 1 (I 1 1)) 3 0 31 0 5) 4 0 32 0 5) 1 4)) 29 5 ((x_cp (x_cp (x_up I1 29 1 (I 1 1)) 3 0 31 0 5) 4 0 32 0 5) 1 5)) 1 6), xr 29]) rfl ?_
  rw [(x_up_far (by first | decide | omega) : (x_up (x_up (x_cp (x_cp (x_up I1 29 1 (I 1 1)) 3 0 31 0 5) 4 0 32 0 5) 29 4 ((x_cp (x_cp (x_up I1 29 1 (I 1 1)) 3 0 31 0 5) 4 0 32 0 5) 1 4)) 29 5 ((x_cp (x_cp (x_up I1 29 1 (I 1 1)) 3 0 31 0 5) 4 0 32 0 5) 1 5)) 1 6 = (x_up (x_cp (x_cp (x_up I1 29 1 (I 1 1)) 3 0 31 0 5) 4 0 32 0 5) 29 4 ((x_cp (x_cp (x_up I1 29 1 (I 1 1)) 3 0 31 0 5) 4 0 32 0 5) 1 4)) 1 6)]
  rw [(x_up_far (by first | decide | omega) : (x_up (x_cp (x_cp (x_up I1 29 1 (I 1 1)) 3 0 31 0 5) 4 0 32 0 5) 29 4 ((x_cp (x_cp (x_up I1 29 1 (I 1 1)) 3 0 31 0 5) 4 0 32 0 5) 1 4)) 1 6 = (x_cp (x_cp (x_up I1 29 1 (I 1 1)) 3 0 31 0 5) 4 0 32 0 5) 1 6)]
  refine ex_pfi rfl (by decide) (rfl : xSH[29]? = some _) (by decide) rfl (by decide) (fun h => by cases h) ?_
  refine ex_st 3 (pc' := 94) (ls' := [(2, xi 6), (0, xr 29), (1, xr 1)]) (st' := [xi ((x_up (x_up (x_up (x_cp (x_cp (x_up I1 29 1 (I 1 1)) 3 0 31 0 5) 4 0 32 0 5) 29 4 ((x_cp (x_cp (x_up I1 29 1 (I 1 1)) 3 0 31 0 5) 4 0 32 0 5) 1 4)) 29 5 ((x_cp (x_cp (x_up I1 29 1 (I 1 1)) 3 0 31 0 5) 4 0 32 0 5) 1 5)) 29 6 ((x_cp (x_cp (x_up I1 29 1 (I 1 1)) 3 0 31 0 5) 4 0 32 0 5) 1 6)) 1 7), xr 29]) rfl ?_
  rw [(x_up_far (by first | decide | omega) : (x_up (x_up (x_up (x_cp (x_cp (x_up I1 29 1 (I 1 1)) 3 0 31 0 5) 4 0 32 0 5) 29 4 ((x_cp (x_cp (x_up I1 29 1 (I 1 1)) 3 0 31 0 5) 4 0 32 0 5) 1 4)) 29 5 ((x_cp (x_cp (x_up I1 29 1 (I 1 1)) 3 0 31 0 5) 4 0 32 0 5) 1 5)) 29 6 ((x_cp (x_cp (x_up I1 29 1 (I 1 1)) 3 0 31 0 5) 4 0 32 0 5) 1 6)) 1 7 = (x_up (x_up (x_cp (x_cp (x_up I1 29 1 (I 1 1)) 3 0 31 0 5) 4 0 32 0 5) 29 4 ((x_cp (x_cp (x_up I1 29 1 (I 1 1)) 3 0 31 0 5) 4 0 32 0 5) 1 4)) 29 5 ((x_cp (x_cp (x_up I1 29 1 (I 1 1)) 3 0 31 0 5) 4 0 32 0 5) 1 5)) 1 7)]
  rw [(x_up_far (by first | decide | omega) : (x_up (x_up (x_cp (x_cp (x_up I1 29 1 (I 1 1)) 3 0 31 0 5) 4 0 32 0 5) 29 4 ((x_cp (x_cp (x_up I1 29 1 (I 1 1)) 3 0 31 0 5) 4 0 32 0 5) 1 4)) 29 5 ((x_cp (x_cp (x_up I1 29 1 (I 1 1)) 3 0 31 0 5) 4 0 32 0 5) 1 5)) 1 7 = (x_up (x_cp (x_cp (x_up I1 29 1 (I 1 1)) 3 0 31 0 5) 4 0 32 0 5) 29 4 ((x_cp (x_cp (x_up I1 29 1 (I 1 1)) 3 0 31 0 5) 4 0 32 0 5) 1 4)) 1 7)]
  rw [(x_up_far (by first | decide | omega) : (x_up (x_cp (x_cp (x_up I1 29 1 (I 1 1)) 3 0 31 0 5) 4 0 32 0 5) 29 4 ((x_cp (x_cp (x_up I1 29 1 (I 1 1)) 3 0 31 0 5) 4 0 32 0 5) 1 4)) 1 7 = (x_cp (x_cp (x_up I1 29 1 (I 1 1)) 3 0 31 0 5) 4 0 32 0 5) 1 7)]
  refine ex_pfi rfl (by decide) (rfl : xSH[29]? = some _) (by decide) rfl (by decide) (fun h => by cases h) ?_
  refine ex_st 4 (pc' := 105) (ls' := [(2, xi 6), (0, xr 29), (1, xr 1)]) (st' := [xr 5, xr 33]) rfl ?_
  obtain ⟨n2, hn2⟩ := Int.eq_ofNat_of_zero_le hze.1
  generalize hM : (x_up (x_up (x_up (x_up (x_cp (x_cp (x_up I1 29 1 (I 1 1)) 3 0 31 0 5) 4 0 32 0 5) 29 4 ((x_cp (x_cp (x_up I1 29 1 (I 1 1)) 3 0 31 0 5) 4 0 32 0 5) 1 4)) 29 5 ((x_cp (x_cp (x_up I1 29 1 (I 1 1)) 3 0 31 0 5) 4 0 32 0 5) 1 5)) 29 6 ((x_cp (x_cp (x_up I1 29 1 (I 1 1)) 3 0 31 0 5) 4 0 32 0 5) 1 6)) 29 7 ((x_cp (x_cp (x_up I1 29 1 (I 1 1)) 3 0 31 0 5) 4 0 32 0 5) 1 7)) = M1
  have hs2 : M1 5 2 = (n2 : Int) := by rw [← hM]; (repeat (first | rw [x_up_far (by omega)] | rw [x_cpI_far (by omega)] | rw [u2 _ _ (by omega)])); exact hn2
  refine ex_callQ (ct_Rw_become (A := 33) (B := 5) (cap := 5) rfl rfl rfl rfl (by decide) (by decide) (by decide) (by decide) hs2 (by omega)) (by decide) rfl ⟨rfl, rfl, rfl⟩ ⟨Nat.le_of_ble_eq_true rfl, rfl, rfl⟩ (Nat.le_of_ble_eq_true rfl) rfl (fun ra m2 hQ => ?_)
  obtain ⟨rfl, M2, rfl, v2_1, v2_2, v2_3⟩ := hQ
  refine ex_st 4 (pc' := 116) (ls' := [(2, xi 6), (0, xr 29), (1, xr 1)]) (st' := [xr 7, xr 35]) rfl ?_
  obtain ⟨n3, hn3⟩ := Int.eq_ofNat_of_zero_le hzp.1
  have hs3 : M2 7 2 = (n3 : Int) := by rw [v2_3 _ _ (by omega) (by omega)]; rw [← hM]; (repeat (first | rw [x_up_far (by omega)] | rw [x_cpI_far (by omega)] | rw [u2 _ _ (by omega)])); exact hn3
  refine ex_callQ (ct_Rw_become (A := 35) (B := 7) (cap := 10) rfl rfl rfl rfl (by decide) (by decide) (by decide) (by decide) hs3 (by omega)) (by decide) rfl ⟨rfl, rfl, rfl⟩ ⟨Nat.le_of_ble_eq_true rfl, rfl, rfl⟩ (Nat.le_of_ble_eq_true rfl) rfl (fun ra m2 hQ => ?_)
  obtain ⟨rfl, M3, rfl, v3_1, v3_2, v3_3⟩ := hQ
  refine ex_st 4 (pc' := 127) (ls' := [(2, xi 6), (0, xr 29), (1, xr 1)]) (st' := [xr 9, xr 37]) rfl ?_
  obtain ⟨n4, hn4⟩ := Int.eq_ofNat_of_zero_le hzk.1
  have hs4 : M3 9 2 = (n4 : Int) := by rw [v3_3 _ _ (by omega) (by omega)]; rw [v2_3 _ _ (by omega) (by omega)]; rw [← hM]; (repeat (first | rw [x_up_far (by omega)] | rw [x_cpI_far (by omega)] | rw [u2 _ _ (by omega)])); exact hn4
  refine ex_callQ (ct_Rw_become (A := 37) (B := 9) (cap := 8) rfl rfl rfl rfl (by decide) (by decide) (by decide) (by decide) hs4 (by omega)) (by decide) rfl ⟨rfl, rfl, rfl⟩ ⟨Nat.le_of_ble_eq_true rfl, rfl, rfl⟩ (Nat.le_of_ble_eq_true rfl) rfl (fun ra m2 hQ => ?_)
  obtain ⟨rfl, M4, rfl, v4_1, v4_2, v4_3⟩ := hQ
  refine ex_retv rfl rfl ?_
  refine ⟨rfl, M4, rfl, ?_⟩
  unfold WB29_1
  refine ⟨fun p hp => ⟨fun j hj => ?_, fun j hj => ?_, fun j hj => ?_⟩, ⟨?_, ?_, ?_, ?_, ?_⟩, fun j hj => ?_, fun j hj => ?_, ⟨?_, fun j hj => ?_⟩, ⟨?_, fun j hj => ?_⟩, ⟨?_, fun j hj => ?_⟩, ⟨?_, ?_, ?_⟩, fun k j hk => ?_⟩
  · rw [v4_3 _ _ (by omega) (by omega), v3_3 _ _ (by omega) (by omega), v2_3 _ _ (by omega) (by omega), ← hM]; (repeat (first | rw [x_up_far (by omega)] | rw [x_up_at2 (by omega) (by omega)] | rw [x_cpI_far (by omega)] | rw [x_cpI_in (by omega)] | rw [u2 _ _ (by omega)])); exact (u1 p (by omega) hp).1 j hj
  · rw [v4_3 _ _ (by omega) (by omega), v3_3 _ _ (by omega) (by omega), v2_3 _ _ (by omega) (by omega), ← hM]; (repeat (first | rw [x_up_far (by omega)] | rw [x_up_at2 (by omega) (by omega)] | rw [x_cpI_far (by omega)] | rw [x_cpI_in (by omega)] | rw [u2 _ _ (by omega)])); exact (u1 p (by omega) hp).2.1 j hj
  · rw [v4_3 _ _ (by omega) (by omega), v3_3 _ _ (by omega) (by omega), v2_3 _ _ (by omega) (by omega), ← hM]; (repeat (first | rw [x_up_far (by omega)] | rw [x_up_at2 (by omega) (by omega)] | rw [x_cpI_far (by omega)] | rw [x_cpI_in (by omega)] | rw [u2 _ _ (by omega)])); exact (u1 p (by omega) hp).2.2 j hj
  · rw [v4_3 _ _ (by omega) (by omega), v3_3 _ _ (by omega) (by omega), v2_3 _ _ (by omega) (by omega), ← hM]; (repeat (first | rw [x_up_far (by omega)] | rw [x_up_at2 (by omega) (by omega)] | rw [x_cpI_far (by omega)] | rw [x_cpI_in (by omega)] | rw [u2 _ _ (by omega)]))
  · rw [v4_3 _ _ (by omega) (by omega), v3_3 _ _ (by omega) (by omega), v2_3 _ _ (by omega) (by omega), ← hM]; (repeat (first | rw [x_up_far (by omega)] | rw [x_up_at2 (by omega) (by omega)] | rw [x_cpI_far (by omega)] | rw [x_cpI_in (by omega)] | rw [u2 _ _ (by omega)]))
  · rw [v4_3 _ _ (by omega) (by omega), v3_3 _ _ (by omega) (by omega), v2_3 _ _ (by omega) (by omega), ← hM]; (repeat (first | rw [x_up_far (by omega)] | rw [x_up_at2 (by omega) (by omega)] | rw [x_cpI_far (by omega)] | rw [x_cpI_in (by omega)] | rw [u2 _ _ (by omega)]))
  · rw [v4_3 _ _ (by omega) (by omega), v3_3 _ _ (by omega) (by omega), v2_3 _ _ (by omega) (by omega), ← hM]; (repeat (first | rw [x_up_far (by omega)] | rw [x_up_at2 (by omega) (by omega)] | rw [x_cpI_far (by omega)] | rw [x_cpI_in (by omega)] | rw [u2 _ _ (by omega)]))
  · rw [v4_3 _ _ (by omega) (by omega), v3_3 _ _ (by omega) (by omega), v2_3 _ _ (by omega) (by omega), ← hM]; (repeat (first | rw [x_up_far (by omega)] | rw [x_up_at2 (by omega) (by omega)] | rw [x_cpI_far (by omega)] | rw [x_cpI_in (by omega)] | rw [u2 _ _ (by omega)]))
  · rw [v4_3 _ _ (by omega) (by omega), v3_3 _ _ (by omega) (by omega), v2_3 _ _ (by omega) (by omega), ← hM]; (repeat (first | rw [x_up_far (by omega)] | rw [x_up_at2 (by omega) (by omega)] | rw [x_cpI_far (by omega)] | rw [x_cpI_in (by omega)] | rw [u2 _ _ (by omega)])); try (rw [show 0 + (j - 0) = j by omega])
  · rw [v4_3 _ _ (by omega) (by omega), v3_3 _ _ (by omega) (by omega), v2_3 _ _ (by omega) (by omega), ← hM]; (repeat (first | rw [x_up_far (by omega)] | rw [x_up_at2 (by omega) (by omega)] | rw [x_cpI_far (by omega)] | rw [x_cpI_in (by omega)] | rw [u2 _ _ (by omega)])); try (rw [show 0 + (j - 0) = j by omega])
  · rw [v4_3 _ _ (by omega) (by omega)]; rw [v3_3 _ _ (by omega) (by omega)]; rw [v2_1]; exact hn2.symm
  · rw [v4_3 _ _ (by omega) (by omega)]; rw [v3_3 _ _ (by omega) (by omega)]; rw [v2_2 j (by omega)]; rw [← hM]; (repeat (first | rw [x_up_far (by omega)] | rw [x_up_at2 (by omega) (by omega)] | rw [x_cpI_far (by omega)] | rw [x_cpI_in (by omega)] | rw [u2 _ _ (by omega)]))
  · rw [v4_3 _ _ (by omega) (by omega)]; rw [v3_1]; exact hn3.symm
  · rw [v4_3 _ _ (by omega) (by omega)]; rw [v3_2 j (by omega)]; rw [v2_3 _ _ (by omega) (by omega)]; rw [← hM]; (repeat (first | rw [x_up_far (by omega)] | rw [x_up_at2 (by omega) (by omega)] | rw [x_cpI_far (by omega)] | rw [x_cpI_in (by omega)] | rw [u2 _ _ (by omega)]))
  · rw [v4_1]; exact hn4.symm
  · rw [v4_2 j (by omega)]; rw [v3_3 _ _ (by omega) (by omega)]; rw [v2_3 _ _ (by omega) (by omega)]; rw [← hM]; (repeat (first | rw [x_up_far (by omega)] | rw [x_up_at2 (by omega) (by omega)] | rw [x_cpI_far (by omega)] | rw [x_cpI_in (by omega)] | rw [u2 _ _ (by omega)]))
  · rw [v4_3 _ _ (by omega) (by omega), v3_3 _ _ (by omega) (by omega), v2_3 _ _ (by omega) (by omega), ← hM]; (repeat (first | rw [x_up_far (by omega)] | rw [x_up_at2 (by omega) (by omega)] | rw [x_cpI_far (by omega)] | rw [x_cpI_in (by omega)] | rw [u2 _ _ (by omega)]))
  · rw [v4_3 _ _ (by omega) (by omega), v3_3 _ _ (by omega) (by omega), v2_3 _ _ (by omega) (by omega), ← hM]; (repeat (first | rw [x_up_far (by omega)] | rw [x_up_at2 (by omega) (by omega)] | rw [x_cpI_far (by omega)] | rw [x_cpI_in (by omega)] | rw [u2 _ _ (by omega)]))
  · rw [v4_3 _ _ (by omega) (by omega), v3_3 _ _ (by omega) (by omega), v2_3 _ _ (by omega) (by omega), ← hM]; (repeat (first | rw [x_up_far (by omega)] | rw [x_up_at2 (by omega) (by omega)] | rw [x_cpI_far (by omega)] | rw [x_cpI_in (by omega)] | rw [u2 _ _ (by omega)]))
  · rw [v4_3 _ _ (by omega) (by omega), v3_3 _ _ (by omega) (by omega), v2_3 _ _ (by omega) (by omega), ← hM]; (repeat (first | rw [x_up_far (by omega)] | rw [x_up_at2 (by omega) (by omega)] | rw [x_cpI_far (by omega)] | rw [x_cpI_in (by omega)] | rw [u2 _ _ (by omega)]))
def WB1_29 (I I' : Nat → Nat → Int) : Prop := (∀ p, p < 6 → (∀ j, j < 4 → I' (11 + 3 * p) j = I (39 + 3 * p) j) ∧ (∀ j, j < 5 → I' (11 + 3 * p + 1) j = I (39 + 3 * p + 1) j) ∧ ∀ j, j < 4 → I' (11 + 3 * p + 2) j = I (39 + 3 * p + 2) j) ∧ (I' 1 1 = I 29 1 ∧ I' 1 4 = I 29 4 ∧ I' 1 5 = I 29 5 ∧ I' 1 6 = I 29 6 ∧ I' 1 7 = I 29 7) ∧ (∀ j, j < 5 → I' 3 j = I 31 j) ∧ (∀ j, j < 5 → I' 4 j = I 32 j) ∧ (I' 5 2 = I 33 2 ∧ ∀ j : Nat, (j : Int) < 4 * I 33 2 → I' 6 j = I 34 j) ∧ (I' 7 2 = I 35 2 ∧ ∀ j : Nat, (j : Int) < 4 * I 35 2 → I' 8 j = I 36 j) ∧ (I' 9 2 = I 37 2 ∧ ∀ j : Nat, (j : Int) < 4 * I 37 2 → I' 10 j = I 38 j) ∧ (I' 5 0 = I 5 0 ∧ I' 7 0 = I 7 0 ∧ I' 9 0 = I 9 0) ∧ ∀ k j, ¬ (1 ≤ k ∧ k ≤ 28) → I' k j = I k j
theorem lp_Wb1_29 {sc : List Int} {I : Nat → Nat → Int} {L : Nat → Nat → Int64} {Q : Option xPV → xMem → Prop} (h01 : ∀ p, p < 6 → I (39 + 3 * p) 3 = 0 ∨ I (39 + 3 * p) 3 = 1) (i : Nat) (hi : i ≤ 6) (kk : ∀ I' : Nat → Nat → Int, (∀ p, i ≤ p → p < 6 → (∀ j, j < 4 → I' (11 + 3 * p) j = I (39 + 3 * p) j) ∧ (∀ j, j < 5 → I' (11 + 3 * p + 1) j = I (39 + 3 * p + 1) j) ∧ ∀ j, j < 4 → I' (11 + 3 * p + 2) j = I (39 + 3 * p + 2) j) → (∀ k j, ¬ (11 + 3 * i ≤ k ∧ k ≤ 28) → I' k j = I k j) → x_Ex sc 2 xM_W_become 29 [(2, xi 6), (0, xr 1), (1, xr 29)] [] (xSH, I', L) Q) : x_Ex sc 2 xM_W_become 2 [(2, xi (↑i)), (0, xr 1), (1, xr 29)] [] (xSH, I, L) Q := by
  refine ex_st 2 (pc' := 5) (ls' := [(2, xi (↑i)), (0, xr 1), (1, xr 29)]) (st' := [xi 6, xi (↑i)]) rfl ?_
  refine ex_ic rfl (by constructor <;> omega) (by decide) (fun (h0 : ((6 : Int)) ≤ (↑i : Int)) => ?_) (fun (h0 : ¬ ((6 : Int)) ≤ (↑i : Int)) => ?_)
  · obtain rfl : i = 6 := by omega
    exact kk I (fun p a b => by omega) (fun _ _ _ => rfl)
  · refine ex_st 3 (pc' := 13) (ls' := [(2, xi (↑i)), (0, xr 1), (1, xr 29)]) (st' := [xi (↑i), xr 2]) rfl ?_
    refine ex_aald (q := 11 + 3 * i) (j := i) rfl (by decide) (rfl : xSH[2]? = some _) (by decide) (by omega) (by omega) (by decide) (x_aa2 i (by omega)) (by omega) ?_
    refine ex_st 3 (pc' := 19) (ls' := [(2, xi (↑i)), (0, xr 1), (1, xr 29)]) (st' := [xi (↑i), xr 30, xr (11 + 3 * i)]) rfl ?_
    refine ex_aald (q := 39 + 3 * i) (j := i) rfl (by decide) (rfl : xSH[30]? = some _) (by decide) (by omega) (by omega) (by decide) (x_aa30 i (by omega)) (by omega) ?_
    refine ex_callQ (ct_O_become (x_so1 i (by omega)).1 (x_so1 i (by omega)).2.1 (x_so1 i (by omega)).2.2 (by omega) (x_so29 i (by omega)).1 (x_so29 i (by omega)).2.1 (x_so29 i (by omega)).2.2 (by omega) (by omega) (h01 i (by omega))) (by decide) rfl ⟨rfl, rfl, rfl⟩ ⟨Nat.le_of_ble_eq_true rfl, rfl, rfl⟩ (Nat.le_of_ble_eq_true rfl) (x_recv_v (by omega) (x_so1 i (by omega)).1 (by decide)) (fun ra m2 hQ => ?_)
    obtain ⟨rfl, I1, rfl, q1, q2, q3, q4⟩ := hQ
    refine ex_st 2 (pc' := 2) (ls' := [(2, xi ((↑i) + 1)), (0, xr 1), (1, xr 29)]) (st' := []) rfl ?_
    refine lp_Wb1_29 (fun p hp => ?_) (i + 1) (by omega) (fun I' h1 h2 => kk I' (fun p hp1 hp2 => ?_) (fun k j hk => ?_))
    · rw [q4 _ _ (by omega) (by omega) (by omega)]; exact h01 p hp
    · by_cases e : p = i
      · subst e; refine ⟨fun j hj => ?_, fun j hj => ?_, fun j hj => ?_⟩
        · rw [h2 _ _ (by omega)]; exact q1 j hj
        · rw [h2 _ _ (by omega)]; exact q2 j hj
        · rw [h2 _ _ (by omega)]; exact q3 j hj
      · obtain ⟨z1, z2, z3⟩ := h1 p (by omega) hp2
        refine ⟨fun j hj => ?_, fun j hj => ?_, fun j hj => ?_⟩
        · rw [z1 j hj]; exact q4 _ _ (by omega) (by omega) (by omega)
        · rw [z2 j hj]; exact q4 _ _ (by omega) (by omega) (by omega)
        · rw [z3 j hj]; exact q4 _ _ (by omega) (by omega) (by omega)
    · rw [h2 _ _ (by omega)]; exact q4 _ _ (by omega) (by omega) (by omega)
termination_by 6 - i
decreasing_by all_goals omega
set_option maxRecDepth 8000 in
set_option maxHeartbeats 4000000 in
theorem ct_W_become1_29 {sc : List Int} {I : Nat → Nat → Int} {L : Nat → Nat → Int64} (h01 : ∀ p, p < 6 → I (39 + 3 * p) 3 = 0 ∨ I (39 + 3 * p) 3 = 1) (hze : 0 ≤ I 33 2 ∧ I 33 2 ≤ 5) (hzp : 0 ≤ I 35 2 ∧ I 35 2 ≤ 10) (hzk : 0 ≤ I 37 2 ∧ I 37 2 ≤ 8) : x_CQ sc 3 xN_W_become [xr 1, xr 29] (xSH, I, L) (fun r m' => r = none ∧ ∃ I', m' = (xSH, I', L) ∧ WB1_29 I I') := by
  refine x_CQ.of (M := xM_W_become) rfl (Nat.le_of_ble_eq_true rfl) ?_
  refine ex_st 2 (pc' := 2) (ls' := [(2, xi 0), (0, xr 1), (1, xr 29)]) (st' := []) rfl ?_
  refine lp_Wb1_29 h01 0 (by decide) (fun I1 u1 u2 => ?_)
  refine ex_st 3 (pc' := 34) (ls' := [(2, xi 6), (0, xr 1), (1, xr 29)]) (st' := [xi (I1 29 1), xr 1]) rfl ?_
  rw [(u2 _ _ (by omega) : I1 29 1 = I 29 1)]
  refine ex_pfi rfl (by decide) (rfl : xSH[1]? = some _) (by decide) rfl (by decide) (fun h => by cases h) ?_
  refine ex_st 7 (pc' := 48) (ls' := [(2, xi 6), (0, xr 1), (1, xr 29)]) (st' := [xi 5, xi 0, xr 3, xi 0, xr 31]) rfl ?_
  refine ex_cpy (nn := 5) (sn := 0) (dn := 0) rfl ⟨(by decide), (by decide)⟩ (rfl : xSH[31]? = some _) (rfl : xSH[3]? = some _) ⟨(by decide), (by decide), (by decide)⟩ (by decide) ⟨by omega, by decide⟩ ⟨by omega, by decide⟩ ?_
  refine ex_st 7 (pc' := 62) (ls' := [(2, xi 6), (0, xr 1), (1, xr 29)]) (st' := [xi 5, xi 0, xr 4, xi 0, xr 32]) rfl ?_
  refine ex_cpy (nn := 5) (sn := 0) (dn := 0) rfl ⟨(by decide), (by decide)⟩ (rfl : xSH[32]? = some _) (rfl : xSH[4]? = some _) ⟨(by decide), (by decide), (by decide)⟩ (by decide) ⟨by omega, by decide⟩ ⟨by omega, by decide⟩ ?_
  refine ex_st 3 (pc' := 70) (ls' := [(2, xi 6), (0, xr 1), (1, xr 29)]) (st' := [xi ((x_cp (x_cp (x_up I1 1 1 (I 29 1)) 31 0 3 0 5) 32 0 4 0 5) 29 4), xr 1]) rfl ?_
  refine ex_pfi rfl (by decide) (rfl : xSH[1]? = some _) (by decide) rfl (by decide) (fun h => by cases h) ?_
  refine ex_st 3 (pc' := 78) (ls' := [(2, xi 6), (0, xr 1), (1, xr 29)]) (st' := [xi ((x_up (x_cp (x_cp (x_up I1 1 1 (I 29 1)) 31 0 3 0 5) 32 0 4 0 5) 1 4 ((x_cp (x_cp (x_up I1 1 1 (I 29 1)) 31 0 3 0 5) 32 0 4 0 5) 29 4)) 29 5), xr 1]) rfl ?_
  rw [(x_up_far (by first | decide | omega) : (x_up (x_cp (x_cp (x_up I1 1 1 (I 29 1)) 31 0 3 0 5) 32 0 4 0 5) 1 4 ((x_cp (x_cp (x_up I1 1 1 (I 29 1)) 31 0 3 0 5) 32 0 4 0 5) 29 4)) 29 5 = (x_cp (x_cp (x_up I1 1 1 (I 29 1)) 31 0 3 0 5) 32 0 4 0 5) 29 5)]
  refine ex_pfi rfl (by decide) (rfl : xSH[1]? = some _) (by decide) rfl (by decide) (fun h => by cases h) ?_
  refine ex_st 3 (pc' := 86) (ls' := [(2, xi 6), (0, xr 1), (1, xr 29)]) (st' := [xi ((x_up (x_up (x_cp (x_cp (x_up I1 1 1 (I 29 1)) 31 0 3 0 5) 32 0 4 0 5) 1 4 ((x_cp (x_cp (x_up I1 1 1 (I 29 1)) 31 0 3 0 5) 32 0 4 0 5) 29 4)) 1 5 ((x_cp (x_cp (x_up I1 1 1 (I 29 1)) 31 0 3 0 5) 32 0 4 0 5) 29 5)) 29 6), xr 1]) rfl ?_
  rw [(x_up_far (by first | decide | omega) : (x_up (x_up (x_cp (x_cp (x_up I1 1 1 (I 29 1)) 31 0 3 0 5) 32 0 4 0 5) 1 4 ((x_cp (x_cp (x_up I1 1 1 (I 29 1)) 31 0 3 0 5) 32 0 4 0 5) 29 4)) 1 5 ((x_cp (x_cp (x_up I1 1 1 (I 29 1)) 31 0 3 0 5) 32 0 4 0 5) 29 5)) 29 6 = (x_up (x_cp (x_cp (x_up I1 1 1 (I 29 1)) 31 0 3 0 5) 32 0 4 0 5) 1 4 ((x_cp (x_cp (x_up I1 1 1 (I 29 1)) 31 0 3 0 5) 32 0 4 0 5) 29 4)) 29 6)]
  rw [(x_up_far (by first | decide | omega) : (x_up (x_cp (x_cp (x_up I1 1 1 (I 29 1)) 31 0 3 0 5) 32 0 4 0 5) 1 4 ((x_cp (x_cp (x_up I1 1 1 (I 29 1)) 31 0 3 0 5) 32 0 4 0 5) 29 4)) 29 6 = (x_cp (x_cp (x_up I1 1 1 (I 29 1)) 31 0 3 0 5) 32 0 4 0 5) 29 6)]
  refine ex_pfi rfl (by decide) (rfl : xSH[1]? = some _) (by decide) rfl (by decide) (fun h => by cases h) ?_
  refine ex_st 3 (pc' := 94) (ls' := [(2, xi 6), (0, xr 1), (1, xr 29)]) (st' := [xi ((x_up (x_up (x_up (x_cp (x_cp (x_up I1 1 1 (I 29 1)) 31 0 3 0 5) 32 0 4 0 5) 1 4 ((x_cp (x_cp (x_up I1 1 1 (I 29 1)) 31 0 3 0 5) 32 0 4 0 5) 29 4)) 1 5 ((x_cp (x_cp (x_up I1 1 1 (I 29 1)) 31 0 3 0 5) 32 0 4 0 5) 29 5)) 1 6 ((x_cp (x_cp (x_up I1 1 1 (I 29 1)) 31 0 3 0 5) 32 0 4 0 5) 29 6)) 29 7), xr 1]) rfl ?_
  rw [(x_up_far (by first | decide | omega) : (x_up (x_up (x_up (x_cp (x_cp (x_up I1 1 1 (I 29 1)) 31 0 3 0 5) 32 0 4 0 5) 1 4 ((x_cp (x_cp (x_up I1 1 1 (I 29 1)) 31 0 3 0 5) 32 0 4 0 5) 29 4)) 1 5 ((x_cp (x_cp (x_up I1 1 1 (I 29 1)) 31 0 3 0 5) 32 0 4 0 5) 29 5)) 1 6 ((x_cp (x_cp (x_up I1 1 1 (I 29 1)) 31 0 3 0 5) 32 0 4 0 5) 29 6)) 29 7 = (x_up (x_up (x_cp (x_cp (x_up I1 1 1 (I 29 1)) 31 0 3 0 5) 32 0 4 0 5) 1 4 ((x_cp (x_cp (x_up I1 1 1 (I 29 1)) 31 0 3 0 5) 32 0 4 0 5) 29 4)) 1 5 ((x_cp (x_cp (x_up I1 1 1 (I 29 1)) 31 0 3 0 5) 32 0 4 0 5) 29 5)) 29 7)]
  rw [(x_up_far (by first | decide | omega) : (x_up (x_up (x_cp (x_cp (x_up I1 1 1 (I 29 1)) 31 0 3 0 5) 32 0 4 0 5) 1 4 ((x_cp (x_cp (x_up I1 1 1 (I 29 1)) 31 0 3 0 5) 32 0 4 0 5) 29 4)) 1 5 ((x_cp (x_cp (x_up I1 1 1 (I 29 1)) 31 0 3 0 5) 32 0 4 0 5) 29 5)) 29 7 = (x_up (x_cp (x_cp (x_up I1 1 1 (I 29 1)) 31 0 3 0 5) 32 0 4 0 5) 1 4 ((x_cp (x_cp (x_up I1 1 1 (I 29 1)) 31 0 3 0 5) 32 0 4 0 5) 29 4)) 29 7)]
  rw [(x_up_far (by first | decide | omega) : (x_up (x_cp (x_cp (x_up I1 1 1 (I 29 1)) 31 0 3 0 5) 32 0 4 0 5) 1 4 ((x_cp (x_cp (x_up I1 1 1 (I 29 1)) 31 0 3 0 5) 32 0 4 0 5) 29 4)) 29 7 = (x_cp (x_cp (x_up I1 1 1 (I 29 1)) 31 0 3 0 5) 32 0 4 0 5) 29 7)]
  refine ex_pfi rfl (by decide) (rfl : xSH[1]? = some _) (by decide) rfl (by decide) (fun h => by cases h) ?_
  refine ex_st 4 (pc' := 105) (ls' := [(2, xi 6), (0, xr 1), (1, xr 29)]) (st' := [xr 33, xr 5]) rfl ?_
  obtain ⟨n2, hn2⟩ := Int.eq_ofNat_of_zero_le hze.1
  generalize hM : (x_up (x_up (x_up (x_up (x_cp (x_cp (x_up I1 1 1 (I 29 1)) 31 0 3 0 5) 32 0 4 0 5) 1 4 ((x_cp (x_cp (x_up I1 1 1 (I 29 1)) 31 0 3 0 5) 32 0 4 0 5) 29 4)) 1 5 ((x_cp (x_cp (x_up I1 1 1 (I 29 1)) 31 0 3 0 5) 32 0 4 0 5) 29 5)) 1 6 ((x_cp (x_cp (x_up I1 1 1 (I 29 1)) 31 0 3 0 5) 32 0 4 0 5) 29 6)) 1 7 ((x_cp (x_cp (x_up I1 1 1 (I 29 1)) 31 0 3 0 5) 32 0 4 0 5) 29 7)) = M1
  have hs2 : M1 33 2 = (n2 : Int) := by rw [← hM]; (repeat (first | rw [x_up_far (by omega)] | rw [x_cpI_far (by omega)] | rw [u2 _ _ (by omega)])); exact hn2
  refine ex_callQ (ct_Rw_become (A := 5) (B := 33) (cap := 5) rfl rfl rfl rfl (by decide) (by decide) (by decide) (by decide) hs2 (by omega)) (by decide) rfl ⟨rfl, rfl, rfl⟩ ⟨Nat.le_of_ble_eq_true rfl, rfl, rfl⟩ (Nat.le_of_ble_eq_true rfl) rfl (fun ra m2 hQ => ?_)
  obtain ⟨rfl, M2, rfl, v2_1, v2_2, v2_3⟩ := hQ
  refine ex_st 4 (pc' := 116) (ls' := [(2, xi 6), (0, xr 1), (1, xr 29)]) (st' := [xr 35, xr 7]) rfl ?_
  obtain ⟨n3, hn3⟩ := Int.eq_ofNat_of_zero_le hzp.1
  have hs3 : M2 35 2 = (n3 : Int) := by rw [v2_3 _ _ (by omega) (by omega)]; rw [← hM]; (repeat (first | rw [x_up_far (by omega)] | rw [x_cpI_far (by omega)] | rw [u2 _ _ (by omega)])); exact hn3
  refine ex_callQ (ct_Rw_become (A := 7) (B := 35) (cap := 10) rfl rfl rfl rfl (by decide) (by decide) (by decide) (by decide) hs3 (by omega)) (by decide) rfl ⟨rfl, rfl, rfl⟩ ⟨Nat.le_of_ble_eq_true rfl, rfl, rfl⟩ (Nat.le_of_ble_eq_true rfl) rfl (fun ra m2 hQ => ?_)
  obtain ⟨rfl, M3, rfl, v3_1, v3_2, v3_3⟩ := hQ
  refine ex_st 4 (pc' := 127) (ls' := [(2, xi 6), (0, xr 1), (1, xr 29)]) (st' := [xr 37, xr 9]) rfl ?_
  obtain ⟨n4, hn4⟩ := Int.eq_ofNat_of_zero_le hzk.1
  have hs4 : M3 37 2 = (n4 : Int) := by rw [v3_3 _ _ (by omega) (by omega)]; rw [v2_3 _ _ (by omega) (by omega)]; rw [← hM]; (repeat (first | rw [x_up_far (by omega)] | rw [x_cpI_far (by omega)] | rw [u2 _ _ (by omega)])); exact hn4
  refine ex_callQ (ct_Rw_become (A := 9) (B := 37) (cap := 8) rfl rfl rfl rfl (by decide) (by decide) (by decide) (by decide) hs4 (by omega)) (by decide) rfl ⟨rfl, rfl, rfl⟩ ⟨Nat.le_of_ble_eq_true rfl, rfl, rfl⟩ (Nat.le_of_ble_eq_true rfl) rfl (fun ra m2 hQ => ?_)
  obtain ⟨rfl, M4, rfl, v4_1, v4_2, v4_3⟩ := hQ
  refine ex_retv rfl rfl ?_
  refine ⟨rfl, M4, rfl, ?_⟩
  unfold WB1_29
  refine ⟨fun p hp => ⟨fun j hj => ?_, fun j hj => ?_, fun j hj => ?_⟩, ⟨?_, ?_, ?_, ?_, ?_⟩, fun j hj => ?_, fun j hj => ?_, ⟨?_, fun j hj => ?_⟩, ⟨?_, fun j hj => ?_⟩, ⟨?_, fun j hj => ?_⟩, ⟨?_, ?_, ?_⟩, fun k j hk => ?_⟩
  · rw [v4_3 _ _ (by omega) (by omega), v3_3 _ _ (by omega) (by omega), v2_3 _ _ (by omega) (by omega), ← hM]; (repeat (first | rw [x_up_far (by omega)] | rw [x_up_at2 (by omega) (by omega)] | rw [x_cpI_far (by omega)] | rw [x_cpI_in (by omega)] | rw [u2 _ _ (by omega)])); exact (u1 p (by omega) hp).1 j hj
  · rw [v4_3 _ _ (by omega) (by omega), v3_3 _ _ (by omega) (by omega), v2_3 _ _ (by omega) (by omega), ← hM]; (repeat (first | rw [x_up_far (by omega)] | rw [x_up_at2 (by omega) (by omega)] | rw [x_cpI_far (by omega)] | rw [x_cpI_in (by omega)] | rw [u2 _ _ (by omega)])); exact (u1 p (by omega) hp).2.1 j hj
  · rw [v4_3 _ _ (by omega) (by omega), v3_3 _ _ (by omega) (by omega), v2_3 _ _ (by omega) (by omega), ← hM]; (repeat (first | rw [x_up_far (by omega)] | rw [x_up_at2 (by omega) (by omega)] | rw [x_cpI_far (by omega)] | rw [x_cpI_in (by omega)] | rw [u2 _ _ (by omega)])); exact (u1 p (by omega) hp).2.2 j hj
  · rw [v4_3 _ _ (by omega) (by omega), v3_3 _ _ (by omega) (by omega), v2_3 _ _ (by omega) (by omega), ← hM]; (repeat (first | rw [x_up_far (by omega)] | rw [x_up_at2 (by omega) (by omega)] | rw [x_cpI_far (by omega)] | rw [x_cpI_in (by omega)] | rw [u2 _ _ (by omega)]))
  · rw [v4_3 _ _ (by omega) (by omega), v3_3 _ _ (by omega) (by omega), v2_3 _ _ (by omega) (by omega), ← hM]; (repeat (first | rw [x_up_far (by omega)] | rw [x_up_at2 (by omega) (by omega)] | rw [x_cpI_far (by omega)] | rw [x_cpI_in (by omega)] | rw [u2 _ _ (by omega)]))
  · rw [v4_3 _ _ (by omega) (by omega), v3_3 _ _ (by omega) (by omega), v2_3 _ _ (by omega) (by omega), ← hM]; (repeat (first | rw [x_up_far (by omega)] | rw [x_up_at2 (by omega) (by omega)] | rw [x_cpI_far (by omega)] | rw [x_cpI_in (by omega)] | rw [u2 _ _ (by omega)]))
  · rw [v4_3 _ _ (by omega) (by omega), v3_3 _ _ (by omega) (by omega), v2_3 _ _ (by omega) (by omega), ← hM]; (repeat (first | rw [x_up_far (by omega)] | rw [x_up_at2 (by omega) (by omega)] | rw [x_cpI_far (by omega)] | rw [x_cpI_in (by omega)] | rw [u2 _ _ (by omega)]))
  · rw [v4_3 _ _ (by omega) (by omega), v3_3 _ _ (by omega) (by omega), v2_3 _ _ (by omega) (by omega), ← hM]; (repeat (first | rw [x_up_far (by omega)] | rw [x_up_at2 (by omega) (by omega)] | rw [x_cpI_far (by omega)] | rw [x_cpI_in (by omega)] | rw [u2 _ _ (by omega)]))
  · rw [v4_3 _ _ (by omega) (by omega), v3_3 _ _ (by omega) (by omega), v2_3 _ _ (by omega) (by omega), ← hM]; (repeat (first | rw [x_up_far (by omega)] | rw [x_up_at2 (by omega) (by omega)] | rw [x_cpI_far (by omega)] | rw [x_cpI_in (by omega)] | rw [u2 _ _ (by omega)])); try (rw [show 0 + (j - 0) = j by omega])
  · rw [v4_3 _ _ (by omega) (by omega), v3_3 _ _ (by omega) (by omega), v2_3 _ _ (by omega) (by omega), ← hM]; (repeat (first | rw [x_up_far (by omega)] | rw [x_up_at2 (by omega) (by omega)] | rw [x_cpI_far (by omega)] | rw [x_cpI_in (by omega)] | rw [u2 _ _ (by omega)])); try (rw [show 0 + (j - 0) = j by omega])
  · rw [v4_3 _ _ (by omega) (by omega)]; rw [v3_3 _ _ (by omega) (by omega)]; rw [v2_1]; exact hn2.symm
  · rw [v4_3 _ _ (by omega) (by omega)]; rw [v3_3 _ _ (by omega) (by omega)]; rw [v2_2 j (by omega)]; rw [← hM]; (repeat (first | rw [x_up_far (by omega)] | rw [x_up_at2 (by omega) (by omega)] | rw [x_cpI_far (by omega)] | rw [x_cpI_in (by omega)] | rw [u2 _ _ (by omega)]))
  · rw [v4_3 _ _ (by omega) (by omega)]; rw [v3_1]; exact hn3.symm
  · rw [v4_3 _ _ (by omega) (by omega)]; rw [v3_2 j (by omega)]; rw [v2_3 _ _ (by omega) (by omega)]; rw [← hM]; (repeat (first | rw [x_up_far (by omega)] | rw [x_up_at2 (by omega) (by omega)] | rw [x_cpI_far (by omega)] | rw [x_cpI_in (by omega)] | rw [u2 _ _ (by omega)]))
  · rw [v4_1]; exact hn4.symm
  · rw [v4_2 j (by omega)]; rw [v3_3 _ _ (by omega) (by omega)]; rw [v2_3 _ _ (by omega) (by omega)]; rw [← hM]; (repeat (first | rw [x_up_far (by omega)] | rw [x_up_at2 (by omega) (by omega)] | rw [x_cpI_far (by omega)] | rw [x_cpI_in (by omega)] | rw [u2 _ _ (by omega)]))
  · rw [v4_3 _ _ (by omega) (by omega), v3_3 _ _ (by omega) (by omega), v2_3 _ _ (by omega) (by omega), ← hM]; (repeat (first | rw [x_up_far (by omega)] | rw [x_up_at2 (by omega) (by omega)] | rw [x_cpI_far (by omega)] | rw [x_cpI_in (by omega)] | rw [u2 _ _ (by omega)]))
  · rw [v4_3 _ _ (by omega) (by omega), v3_3 _ _ (by omega) (by omega), v2_3 _ _ (by omega) (by omega), ← hM]; (repeat (first | rw [x_up_far (by omega)] | rw [x_up_at2 (by omega) (by omega)] | rw [x_cpI_far (by omega)] | rw [x_cpI_in (by omega)] | rw [u2 _ _ (by omega)]))
  · rw [v4_3 _ _ (by omega) (by omega), v3_3 _ _ (by omega) (by omega), v2_3 _ _ (by omega) (by omega), ← hM]; (repeat (first | rw [x_up_far (by omega)] | rw [x_up_at2 (by omega) (by omega)] | rw [x_cpI_far (by omega)] | rw [x_cpI_in (by omega)] | rw [u2 _ _ (by omega)]))
  · rw [v4_3 _ _ (by omega) (by omega), v3_3 _ _ (by omega) (by omega), v2_3 _ _ (by omega) (by omega), ← hM]; (repeat (first | rw [x_up_far (by omega)] | rw [x_up_at2 (by omega) (by omega)] | rw [x_cpI_far (by omega)] | rw [x_cpI_in (by omega)] | rw [u2 _ _ (by omega)]))
def WB57_1 (I I' : Nat → Nat → Int) : Prop := (∀ p, p < 6 → (∀ j, j < 4 → I' (67 + 3 * p) j = I (11 + 3 * p) j) ∧ (∀ j, j < 5 → I' (67 + 3 * p + 1) j = I (11 + 3 * p + 1) j) ∧ ∀ j, j < 4 → I' (67 + 3 * p + 2) j = I (11 + 3 * p + 2) j) ∧ (I' 57 1 = I 1 1 ∧ I' 57 4 = I 1 4 ∧ I' 57 5 = I 1 5 ∧ I' 57 6 = I 1 6 ∧ I' 57 7 = I 1 7) ∧ (∀ j, j < 5 → I' 59 j = I 3 j) ∧ (∀ j, j < 5 → I' 60 j = I 4 j) ∧ (I' 61 2 = I 5 2 ∧ ∀ j : Nat, (j : Int) < 4 * I 5 2 → I' 62 j = I 6 j) ∧ (I' 63 2 = I 7 2 ∧ ∀ j : Nat, (j : Int) < 4 * I 7 2 → I' 64 j = I 8 j) ∧ (I' 65 2 = I 9 2 ∧ ∀ j : Nat, (j : Int) < 4 * I 9 2 → I' 66 j = I 10 j) ∧ (I' 61 0 = I 61 0 ∧ I' 63 0 = I 63 0 ∧ I' 65 0 = I 65 0) ∧ ∀ k j, ¬ (57 ≤ k ∧ k ≤ 84) → I' k j = I k j
theorem lp_Wb57_1 {sc : List Int} {I : Nat → Nat → Int} {L : Nat → Nat → Int64} {Q : Option xPV → xMem → Prop} (h01 : ∀ p, p < 6 → I (11 + 3 * p) 3 = 0 ∨ I (11 + 3 * p) 3 = 1) (i : Nat) (hi : i ≤ 6) (kk : ∀ I' : Nat → Nat → Int, (∀ p, i ≤ p → p < 6 → (∀ j, j < 4 → I' (67 + 3 * p) j = I (11 + 3 * p) j) ∧ (∀ j, j < 5 → I' (67 + 3 * p + 1) j = I (11 + 3 * p + 1) j) ∧ ∀ j, j < 4 → I' (67 + 3 * p + 2) j = I (11 + 3 * p + 2) j) → (∀ k j, ¬ (67 + 3 * i ≤ k ∧ k ≤ 84) → I' k j = I k j) → x_Ex sc 2 xM_W_become 29 [(2, xi 6), (0, xr 57), (1, xr 1)] [] (xSH, I', L) Q) : x_Ex sc 2 xM_W_become 2 [(2, xi (↑i)), (0, xr 57), (1, xr 1)] [] (xSH, I, L) Q := by
  refine ex_st 2 (pc' := 5) (ls' := [(2, xi (↑i)), (0, xr 57), (1, xr 1)]) (st' := [xi 6, xi (↑i)]) rfl ?_
  refine ex_ic rfl (by constructor <;> omega) (by decide) (fun (h0 : ((6 : Int)) ≤ (↑i : Int)) => ?_) (fun (h0 : ¬ ((6 : Int)) ≤ (↑i : Int)) => ?_)
  · obtain rfl : i = 6 := by omega
    exact kk I (fun p a b => by omega) (fun _ _ _ => rfl)
  · refine ex_st 3 (pc' := 13) (ls' := [(2, xi (↑i)), (0, xr 57), (1, xr 1)]) (st' := [xi (↑i), xr 58]) rfl ?_
    refine ex_aald (q := 67 + 3 * i) (j := i) rfl (by decide) (rfl : xSH[58]? = some _) (by decide) (by omega) (by omega) (by decide) (x_aa58 i (by omega)) (by omega) ?_
    refine ex_st 3 (pc' := 19) (ls' := [(2, xi (↑i)), (0, xr 57), (1, xr 1)]) (st' := [xi (↑i), xr 2, xr (67 + 3 * i)]) rfl ?_
    refine ex_aald (q := 11 + 3 * i) (j := i) rfl (by decide) (rfl : xSH[2]? = some _) (by decide) (by omega) (by omega) (by decide) (x_aa2 i (by omega)) (by omega) ?_
    refine ex_callQ (ct_O_become (x_so57 i (by omega)).1 (x_so57 i (by omega)).2.1 (x_so57 i (by omega)).2.2 (by omega) (x_so1 i (by omega)).1 (x_so1 i (by omega)).2.1 (x_so1 i (by omega)).2.2 (by omega) (by omega) (h01 i (by omega))) (by decide) rfl ⟨rfl, rfl, rfl⟩ ⟨Nat.le_of_ble_eq_true rfl, rfl, rfl⟩ (Nat.le_of_ble_eq_true rfl) (x_recv_v (by omega) (x_so57 i (by omega)).1 (by decide)) (fun ra m2 hQ => ?_)
    obtain ⟨rfl, I1, rfl, q1, q2, q3, q4⟩ := hQ
    refine ex_st 2 (pc' := 2) (ls' := [(2, xi ((↑i) + 1)), (0, xr 57), (1, xr 1)]) (st' := []) rfl ?_
    refine lp_Wb57_1 (fun p hp => ?_) (i + 1) (by omega) (fun I' h1 h2 => kk I' (fun p hp1 hp2 => ?_) (fun k j hk => ?_))
    · rw [q4 _ _ (by omega) (by omega) (by omega)]; exact h01 p hp
    · by_cases e : p = i
      · subst e; refine ⟨fun j hj => ?_, fun j hj => ?_, fun j hj => ?_⟩
        · rw [h2 _ _ (by omega)]; exact q1 j hj
        · rw [h2 _ _ (by omega)]; exact q2 j hj
        · rw [h2 _ _ (by omega)]; exact q3 j hj
      · obtain ⟨z1, z2, z3⟩ := h1 p (by omega) hp2
        refine ⟨fun j hj => ?_, fun j hj => ?_, fun j hj => ?_⟩
        · rw [z1 j hj]; exact q4 _ _ (by omega) (by omega) (by omega)
        · rw [z2 j hj]; exact q4 _ _ (by omega) (by omega) (by omega)
        · rw [z3 j hj]; exact q4 _ _ (by omega) (by omega) (by omega)
    · rw [h2 _ _ (by omega)]; exact q4 _ _ (by omega) (by omega) (by omega)
termination_by 6 - i
decreasing_by all_goals omega
set_option maxRecDepth 8000 in
set_option maxHeartbeats 4000000 in
theorem ct_W_become57_1 {sc : List Int} {I : Nat → Nat → Int} {L : Nat → Nat → Int64} (h01 : ∀ p, p < 6 → I (11 + 3 * p) 3 = 0 ∨ I (11 + 3 * p) 3 = 1) (hze : 0 ≤ I 5 2 ∧ I 5 2 ≤ 5) (hzp : 0 ≤ I 7 2 ∧ I 7 2 ≤ 10) (hzk : 0 ≤ I 9 2 ∧ I 9 2 ≤ 8) : x_CQ sc 3 xN_W_become [xr 57, xr 1] (xSH, I, L) (fun r m' => r = none ∧ ∃ I', m' = (xSH, I', L) ∧ WB57_1 I I') := by
  refine x_CQ.of (M := xM_W_become) rfl (Nat.le_of_ble_eq_true rfl) ?_
  refine ex_st 2 (pc' := 2) (ls' := [(2, xi 0), (0, xr 57), (1, xr 1)]) (st' := []) rfl ?_
  refine lp_Wb57_1 h01 0 (by decide) (fun I1 u1 u2 => ?_)
  refine ex_st 3 (pc' := 34) (ls' := [(2, xi 6), (0, xr 57), (1, xr 1)]) (st' := [xi (I1 1 1), xr 57]) rfl ?_
  rw [(u2 _ _ (by omega) : I1 1 1 = I 1 1)]
  refine ex_pfi rfl (by decide) (rfl : xSH[57]? = some _) (by decide) rfl (by decide) (fun h => by cases h) ?_
  refine ex_st 7 (pc' := 48) (ls' := [(2, xi 6), (0, xr 57), (1, xr 1)]) (st' := [xi 5, xi 0, xr 59, xi 0, xr 3]) rfl ?_
  refine ex_cpy (nn := 5) (sn := 0) (dn := 0) rfl ⟨(by decide), (by decide)⟩ (rfl : xSH[3]? = some _) (rfl : xSH[59]? = some _) ⟨(by decide), (by decide), (by decide)⟩ (by decide) ⟨by omega, by decide⟩ ⟨by omega, by decide⟩ ?_
  refine ex_st 7 (pc' := 62) (ls' := [(2, xi 6), (0, xr 57), (1, xr 1)]) (st' := [xi 5, xi 0, xr 60, xi 0, xr 4]) rfl ?_
  refine ex_cpy (nn := 5) (sn := 0) (dn := 0) rfl ⟨(by decide), (by decide)⟩ (rfl : xSH[4]? = some _) (rfl : xSH[60]? = some _) ⟨(by decide), (by decide), (by decide)⟩ (by decide) ⟨by omega, by decide⟩ ⟨by omega, by decide⟩ ?_
  refine ex_st 3 (pc' := 70) (ls' := [(2, xi 6), (0, xr 57), (1, xr 1)]) (st' := [xi ((x_cp (x_cp (x_up I1 57 1 (I 1 1)) 3 0 59 0 5) 4 0 60 0 5) 1 4), xr 57]) rfl ?_
  refine ex_pfi rfl (by decide) (rfl : xSH[57]? = some _) (by decide) rfl (by decide) (fun h => by cases h) ?_
  refine ex_st 3 (pc' := 78) (ls' := [(2, xi 6), (0, xr 57), (1, xr 1)]) (st' := [xi ((x_up (x_cp (x_cp (x_up I1 57 1 (I 1 1)) 3 0 59 0 5) 4 0 60 0 5) 57 4 ((x_cp (x_cp (x_up I1 57 1 (I 1 1)) 3 0 59 0 5) 4 0 60 0 5) 1 4)) 1 5), xr 57]) rfl ?_
  rw [(x_up_far (by first | decide | omega) : (x_up (x_cp (x_cp (x_up I1 57 1 (I 1 1)) 3 0 59 0 5) 4 0 60 0 5) 57 4 ((x_cp (x_cp (x_up I1 57 1 (I 1 1)) 3 0 59 0 5) 4 0 60 0 5) 1 4)) 1 5 = (x_cp (x_cp (x_up I1 57 1 (I 1 1)) 3 0 59 0 5) 4 0 60 0 5) 1 5)]
  refine ex_pfi rfl (by decide) (rfl : xSH[57]? = some _) (by decide) rfl (by decide) (fun h => by cases h) ?_
  refine ex_st 3 (pc' := 86) (ls' := [(2, xi 6), (0, xr 57), (1, xr 1)]) (st' := [xi ((x_up (x_up (x_cp (x_cp (x_up I1 57 1 (I 1 1)) 3 0 59 0 5) 4 0 60 0 5) 57 4 ((x_cp (x_cp (x_up I1 57 1 (I 1 1)) 3 0 59 0 5) 4 0 60 0 5) 1 4)) 57 5 ((x_cp (x_cp (x_up I1 57 1 (I 1 1)) 3 0 59 0 5) 4 0 60 0 5) 1 5)) 1 6), xr 57]) rfl ?_
  rw [(x_up_far (by first | decide | omega) : (x_up (x_up (x_cp (x_cp (x_up I1 57 1 (I 1 1)) 3 0 59 0 5) 4 0 60 0 5) 57 4 ((x_cp (x_cp (x_up I1 57 1 (I 1 1)) 3 0 59 0 5) 4 0 60 0 5) 1 4)) 57 5 ((x_cp (x_cp (x_up I1 57 1 (I 1 1)) 3 0 59 0 5) 4 0 60 0 5) 1 5)) 1 6 = (x_up (x_cp (x_cp (x_up I1 57 1 (I 1 1)) 3 0 59 0 5) 4 0 60 0 5) 57 4 ((x_cp (x_cp (x_up I1 57 1 (I 1 1)) 3 0 59 0 5) 4 0 60 0 5) 1 4)) 1 6)]
  rw [(x_up_far (by first | decide | omega) : (x_up (x_cp (x_cp (x_up I1 57 1 (I 1 1)) 3 0 59 0 5) 4 0 60 0 5) 57 4 ((x_cp (x_cp (x_up I1 57 1 (I 1 1)) 3 0 59 0 5) 4 0 60 0 5) 1 4)) 1 6 = (x_cp (x_cp (x_up I1 57 1 (I 1 1)) 3 0 59 0 5) 4 0 60 0 5) 1 6)]
  refine ex_pfi rfl (by decide) (rfl : xSH[57]? = some _) (by decide) rfl (by decide) (fun h => by cases h) ?_
  refine ex_st 3 (pc' := 94) (ls' := [(2, xi 6), (0, xr 57), (1, xr 1)]) (st' := [xi ((x_up (x_up (x_up (x_cp (x_cp (x_up I1 57 1 (I 1 1)) 3 0 59 0 5) 4 0 60 0 5) 57 4 ((x_cp (x_cp (x_up I1 57 1 (I 1 1)) 3 0 59 0 5) 4 0 60 0 5) 1 4)) 57 5 ((x_cp (x_cp (x_up I1 57 1 (I 1 1)) 3 0 59 0 5) 4 0 60 0 5) 1 5)) 57 6 ((x_cp (x_cp (x_up I1 57 1 (I 1 1)) 3 0 59 0 5) 4 0 60 0 5) 1 6)) 1 7), xr 57]) rfl ?_
  rw [(x_up_far (by first | decide | omega) : (x_up (x_up (x_up (x_cp (x_cp (x_up I1 57 1 (I 1 1)) 3 0 59 0 5) 4 0 60 0 5) 57 4 ((x_cp (x_cp (x_up I1 57 1 (I 1 1)) 3 0 59 0 5) 4 0 60 0 5) 1 4)) 57 5 ((x_cp (x_cp (x_up I1 57 1 (I 1 1)) 3 0 59 0 5) 4 0 60 0 5) 1 5)) 57 6 ((x_cp (x_cp (x_up I1 57 1 (I 1 1)) 3 0 59 0 5) 4 0 60 0 5) 1 6)) 1 7 = (x_up (x_up (x_cp (x_cp (x_up I1 57 1 (I 1 1)) 3 0 59 0 5) 4 0 60 0 5) 57 4 ((x_cp (x_cp (x_up I1 57 1 (I 1 1)) 3 0 59 0 5) 4 0 60 0 5) 1 4)) 57 5 ((x_cp (x_cp (x_up I1 57 1 (I 1 1)) 3 0 59 0 5) 4 0 60 0 5) 1 5)) 1 7)]
  rw [(x_up_far (by first | decide | omega) : (x_up (x_up (x_cp (x_cp (x_up I1 57 1 (I 1 1)) 3 0 59 0 5) 4 0 60 0 5) 57 4 ((x_cp (x_cp (x_up I1 57 1 (I 1 1)) 3 0 59 0 5) 4 0 60 0 5) 1 4)) 57 5 ((x_cp (x_cp (x_up I1 57 1 (I 1 1)) 3 0 59 0 5) 4 0 60 0 5) 1 5)) 1 7 = (x_up (x_cp (x_cp (x_up I1 57 1 (I 1 1)) 3 0 59 0 5) 4 0 60 0 5) 57 4 ((x_cp (x_cp (x_up I1 57 1 (I 1 1)) 3 0 59 0 5) 4 0 60 0 5) 1 4)) 1 7)]
  rw [(x_up_far (by first | decide | omega) : (x_up (x_cp (x_cp (x_up I1 57 1 (I 1 1)) 3 0 59 0 5) 4 0 60 0 5) 57 4 ((x_cp (x_cp (x_up I1 57 1 (I 1 1)) 3 0 59 0 5) 4 0 60 0 5) 1 4)) 1 7 = (x_cp (x_cp (x_up I1 57 1 (I 1 1)) 3 0 59 0 5) 4 0 60 0 5) 1 7)]
  refine ex_pfi rfl (by decide) (rfl : xSH[57]? = some _) (by decide) rfl (by decide) (fun h => by cases h) ?_
  refine ex_st 4 (pc' := 105) (ls' := [(2, xi 6), (0, xr 57), (1, xr 1)]) (st' := [xr 5, xr 61]) rfl ?_
  obtain ⟨n2, hn2⟩ := Int.eq_ofNat_of_zero_le hze.1
  generalize hM : (x_up (x_up (x_up (x_up (x_cp (x_cp (x_up I1 57 1 (I 1 1)) 3 0 59 0 5) 4 0 60 0 5) 57 4 ((x_cp (x_cp (x_up I1 57 1 (I 1 1)) 3 0 59 0 5) 4 0 60 0 5) 1 4)) 57 5 ((x_cp (x_cp (x_up I1 57 1 (I 1 1)) 3 0 59 0 5) 4 0 60 0 5) 1 5)) 57 6 ((x_cp (x_cp (x_up I1 57 1 (I 1 1)) 3 0 59 0 5) 4 0 60 0 5) 1 6)) 57 7 ((x_cp (x_cp (x_up I1 57 1 (I 1 1)) 3 0 59 0 5) 4 0 60 0 5) 1 7)) = M1
  have hs2 : M1 5 2 = (n2 : Int) := by rw [← hM]; (repeat (first | rw [x_up_far (by omega)] | rw [x_cpI_far (by omega)] | rw [u2 _ _ (by omega)])); exact hn2
  refine ex_callQ (ct_Rw_become (A := 61) (B := 5) (cap := 5) rfl rfl rfl rfl (by decide) (by decide) (by decide) (by decide) hs2 (by omega)) (by decide) rfl ⟨rfl, rfl, rfl⟩ ⟨Nat.le_of_ble_eq_true rfl, rfl, rfl⟩ (Nat.le_of_ble_eq_true rfl) rfl (fun ra m2 hQ => ?_)
  obtain ⟨rfl, M2, rfl, v2_1, v2_2, v2_3⟩ := hQ
  refine ex_st 4 (pc' := 116) (ls' := [(2, xi 6), (0, xr 57), (1, xr 1)]) (st' := [xr 7, xr 63]) rfl ?_
  obtain ⟨n3, hn3⟩ := Int.eq_ofNat_of_zero_le hzp.1
  have hs3 : M2 7 2 = (n3 : Int) := by rw [v2_3 _ _ (by omega) (by omega)]; rw [← hM]; (repeat (first | rw [x_up_far (by omega)] | rw [x_cpI_far (by omega)] | rw [u2 _ _ (by omega)])); exact hn3
  refine ex_callQ (ct_Rw_become (A := 63) (B := 7) (cap := 10) rfl rfl rfl rfl (by decide) (by decide) (by decide) (by decide) hs3 (by omega)) (by decide) rfl ⟨rfl, rfl, rfl⟩ ⟨Nat.le_of_ble_eq_true rfl, rfl, rfl⟩ (Nat.le_of_ble_eq_true rfl) rfl (fun ra m2 hQ => ?_)
  obtain ⟨rfl, M3, rfl, v3_1, v3_2, v3_3⟩ := hQ
  refine ex_st 4 (pc' := 127) (ls' := [(2, xi 6), (0, xr 57), (1, xr 1)]) (st' := [xr 9, xr 65]) rfl ?_
  obtain ⟨n4, hn4⟩ := Int.eq_ofNat_of_zero_le hzk.1
  have hs4 : M3 9 2 = (n4 : Int) := by rw [v3_3 _ _ (by omega) (by omega)]; rw [v2_3 _ _ (by omega) (by omega)]; rw [← hM]; (repeat (first | rw [x_up_far (by omega)] | rw [x_cpI_far (by omega)] | rw [u2 _ _ (by omega)])); exact hn4
  refine ex_callQ (ct_Rw_become (A := 65) (B := 9) (cap := 8) rfl rfl rfl rfl (by decide) (by decide) (by decide) (by decide) hs4 (by omega)) (by decide) rfl ⟨rfl, rfl, rfl⟩ ⟨Nat.le_of_ble_eq_true rfl, rfl, rfl⟩ (Nat.le_of_ble_eq_true rfl) rfl (fun ra m2 hQ => ?_)
  obtain ⟨rfl, M4, rfl, v4_1, v4_2, v4_3⟩ := hQ
  refine ex_retv rfl rfl ?_
  refine ⟨rfl, M4, rfl, ?_⟩
  unfold WB57_1
  refine ⟨fun p hp => ⟨fun j hj => ?_, fun j hj => ?_, fun j hj => ?_⟩, ⟨?_, ?_, ?_, ?_, ?_⟩, fun j hj => ?_, fun j hj => ?_, ⟨?_, fun j hj => ?_⟩, ⟨?_, fun j hj => ?_⟩, ⟨?_, fun j hj => ?_⟩, ⟨?_, ?_, ?_⟩, fun k j hk => ?_⟩
  · rw [v4_3 _ _ (by omega) (by omega), v3_3 _ _ (by omega) (by omega), v2_3 _ _ (by omega) (by omega), ← hM]; (repeat (first | rw [x_up_far (by omega)] | rw [x_up_at2 (by omega) (by omega)] | rw [x_cpI_far (by omega)] | rw [x_cpI_in (by omega)] | rw [u2 _ _ (by omega)])); exact (u1 p (by omega) hp).1 j hj
  · rw [v4_3 _ _ (by omega) (by omega), v3_3 _ _ (by omega) (by omega), v2_3 _ _ (by omega) (by omega), ← hM]; (repeat (first | rw [x_up_far (by omega)] | rw [x_up_at2 (by omega) (by omega)] | rw [x_cpI_far (by omega)] | rw [x_cpI_in (by omega)] | rw [u2 _ _ (by omega)])); exact (u1 p (by omega) hp).2.1 j hj
  · rw [v4_3 _ _ (by omega) (by omega), v3_3 _ _ (by omega) (by omega), v2_3 _ _ (by omega) (by omega), ← hM]; (repeat (first | rw [x_up_far (by omega)] | rw [x_up_at2 (by omega) (by omega)] | rw [x_cpI_far (by omega)] | rw [x_cpI_in (by omega)] | rw [u2 _ _ (by omega)])); exact (u1 p (by omega) hp).2.2 j hj
  · rw [v4_3 _ _ (by omega) (by omega), v3_3 _ _ (by omega) (by omega), v2_3 _ _ (by omega) (by omega), ← hM]; (repeat (first | rw [x_up_far (by omega)] | rw [x_up_at2 (by omega) (by omega)] | rw [x_cpI_far (by omega)] | rw [x_cpI_in (by omega)] | rw [u2 _ _ (by omega)]))
  · rw [v4_3 _ _ (by omega) (by omega), v3_3 _ _ (by omega) (by omega), v2_3 _ _ (by omega) (by omega), ← hM]; (repeat (first | rw [x_up_far (by omega)] | rw [x_up_at2 (by omega) (by omega)] | rw [x_cpI_far (by omega)] | rw [x_cpI_in (by omega)] | rw [u2 _ _ (by omega)]))
  · rw [v4_3 _ _ (by omega) (by omega), v3_3 _ _ (by omega) (by omega), v2_3 _ _ (by omega) (by omega), ← hM]; (repeat (first | rw [x_up_far (by omega)] | rw [x_up_at2 (by omega) (by omega)] | rw [x_cpI_far (by omega)] | rw [x_cpI_in (by omega)] | rw [u2 _ _ (by omega)]))
  · rw [v4_3 _ _ (by omega) (by omega), v3_3 _ _ (by omega) (by omega), v2_3 _ _ (by omega) (by omega), ← hM]; (repeat (first | rw [x_up_far (by omega)] | rw [x_up_at2 (by omega) (by omega)] | rw [x_cpI_far (by omega)] | rw [x_cpI_in (by omega)] | rw [u2 _ _ (by omega)]))
  · rw [v4_3 _ _ (by omega) (by omega), v3_3 _ _ (by omega) (by omega), v2_3 _ _ (by omega) (by omega), ← hM]; (repeat (first | rw [x_up_far (by omega)] | rw [x_up_at2 (by omega) (by omega)] | rw [x_cpI_far (by omega)] | rw [x_cpI_in (by omega)] | rw [u2 _ _ (by omega)]))
  · rw [v4_3 _ _ (by omega) (by omega), v3_3 _ _ (by omega) (by omega), v2_3 _ _ (by omega) (by omega), ← hM]; (repeat (first | rw [x_up_far (by omega)] | rw [x_up_at2 (by omega) (by omega)] | rw [x_cpI_far (by omega)] | rw [x_cpI_in (by omega)] | rw [u2 _ _ (by omega)])); try (rw [show 0 + (j - 0) = j by omega])
  · rw [v4_3 _ _ (by omega) (by omega), v3_3 _ _ (by omega) (by omega), v2_3 _ _ (by omega) (by omega), ← hM]; (repeat (first | rw [x_up_far (by omega)] | rw [x_up_at2 (by omega) (by omega)] | rw [x_cpI_far (by omega)] | rw [x_cpI_in (by omega)] | rw [u2 _ _ (by omega)])); try (rw [show 0 + (j - 0) = j by omega])
  · rw [v4_3 _ _ (by omega) (by omega)]; rw [v3_3 _ _ (by omega) (by omega)]; rw [v2_1]; exact hn2.symm
  · rw [v4_3 _ _ (by omega) (by omega)]; rw [v3_3 _ _ (by omega) (by omega)]; rw [v2_2 j (by omega)]; rw [← hM]; (repeat (first | rw [x_up_far (by omega)] | rw [x_up_at2 (by omega) (by omega)] | rw [x_cpI_far (by omega)] | rw [x_cpI_in (by omega)] | rw [u2 _ _ (by omega)]))
  · rw [v4_3 _ _ (by omega) (by omega)]; rw [v3_1]; exact hn3.symm
  · rw [v4_3 _ _ (by omega) (by omega)]; rw [v3_2 j (by omega)]; rw [v2_3 _ _ (by omega) (by omega)]; rw [← hM]; (repeat (first | rw [x_up_far (by omega)] | rw [x_up_at2 (by omega) (by omega)] | rw [x_cpI_far (by omega)] | rw [x_cpI_in (by omega)] | rw [u2 _ _ (by omega)]))
  · rw [v4_1]; exact hn4.symm
  · rw [v4_2 j (by omega)]; rw [v3_3 _ _ (by omega) (by omega)]; rw [v2_3 _ _ (by omega) (by omega)]; rw [← hM]; (repeat (first | rw [x_up_far (by omega)] | rw [x_up_at2 (by omega) (by omega)] | rw [x_cpI_far (by omega)] | rw [x_cpI_in (by omega)] | rw [u2 _ _ (by omega)]))
  · rw [v4_3 _ _ (by omega) (by omega), v3_3 _ _ (by omega) (by omega), v2_3 _ _ (by omega) (by omega), ← hM]; (repeat (first | rw [x_up_far (by omega)] | rw [x_up_at2 (by omega) (by omega)] | rw [x_cpI_far (by omega)] | rw [x_cpI_in (by omega)] | rw [u2 _ _ (by omega)]))
  · rw [v4_3 _ _ (by omega) (by omega), v3_3 _ _ (by omega) (by omega), v2_3 _ _ (by omega) (by omega), ← hM]; (repeat (first | rw [x_up_far (by omega)] | rw [x_up_at2 (by omega) (by omega)] | rw [x_cpI_far (by omega)] | rw [x_cpI_in (by omega)] | rw [u2 _ _ (by omega)]))
  · rw [v4_3 _ _ (by omega) (by omega), v3_3 _ _ (by omega) (by omega), v2_3 _ _ (by omega) (by omega), ← hM]; (repeat (first | rw [x_up_far (by omega)] | rw [x_up_at2 (by omega) (by omega)] | rw [x_cpI_far (by omega)] | rw [x_cpI_in (by omega)] | rw [u2 _ _ (by omega)]))
  · rw [v4_3 _ _ (by omega) (by omega), v3_3 _ _ (by omega) (by omega), v2_3 _ _ (by omega) (by omega), ← hM]; (repeat (first | rw [x_up_far (by omega)] | rw [x_up_at2 (by omega) (by omega)] | rw [x_cpI_far (by omega)] | rw [x_cpI_in (by omega)] | rw [u2 _ _ (by omega)]))
