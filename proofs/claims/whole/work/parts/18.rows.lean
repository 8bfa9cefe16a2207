/-! Ballot: rows of all five -/
section EXN
variable {sc : List Int} {D : Nat} {M : xMt} {pc : Nat} {ls : xLc} {r : List xPV} {m : xMem} {Q : Option xPV → xMem → Prop}
theorem ex_idivN {len p q a b : Nat} {z : Int} (he : x_lk M.2.2 pc = some (.idiv, len, p, q, z)) (ha : a < 2147483648) (hb : b < 2147483648) (hb0 : b ≠ 0) (kk : x_Ex sc D M (pc + len) ls (xi ((a / b : Nat) : Int) :: r) m Q) : x_Ex sc D M pc ls (xi ((b : Nat) : Int) :: xi ((a : Nat) : Int) :: r) m Q :=
  ex_idiv he (by constructor <;> omega) (by constructor <;> omega) (by omega) kk
theorem ex_iremN {len p q a b : Nat} {z : Int} (he : x_lk M.2.2 pc = some (.irem, len, p, q, z)) (ha : a < 2147483648) (hb : b < 2147483648) (hb0 : b ≠ 0) (kk : x_Ex sc D M (pc + len) ls (xi ((a % b : Nat) : Int) :: r) m Q) : x_Ex sc D M pc ls (xi ((b : Nat) : Int) :: xi ((a : Nat) : Int) :: r) m Q :=
  ex_irem he (by constructor <;> omega) (by constructor <;> omega) (by omega) kk
end EXN
/-- the bit of s, from 5 - k on, with w set ones of s below it -/
def sp_bb (s : Nat) : Nat → Nat → Nat
  | 0, _ => 0
  | k + 1, w => if s.testBit (4 - k) = true then (if w = 0 then 4 - k else sp_bb s k (w - 1)) else sp_bb s k w
theorem sp_bb_lt (s : Nat) : ∀ k w, sp_bb s k w < 5
  | 0, _ => by show 0 < 5; decide
  | k + 1, w => by
    unfold sp_bb
    split
    · split
      · omega
      · exact sp_bb_lt s k _
    · exact sp_bb_lt s k _
def sp_rm (s v : Nat) : Nat := s &&& (31 ^^^ (1 <<< v))
theorem z_rm : ∀ s, s < 32 → ∀ v, v < 5 → z_and ((s : Nat) : Int) (z_xor (z_shl 1 ((v : Nat) : Int)) (-1)) = ((sp_rm s v : Nat) : Int) ∧ sp_rm s v < 32 := by decide +kernel
def sp_l0 (r : Nat) : Nat := sp_bb 31 5 (r / 24)
def sp_m1 (r : Nat) : Nat := sp_rm 31 (sp_l0 r)
def sp_l1 (r : Nat) : Nat := sp_bb (sp_m1 r) 5 (r % 24 / 6)
def sp_m2 (r : Nat) : Nat := sp_rm (sp_m1 r) (sp_l1 r)
def sp_l2 (r : Nat) : Nat := sp_bb (sp_m2 r) 5 (r % 24 % 6 / 2)
def sp_m3 (r : Nat) : Nat := sp_rm (sp_m2 r) (sp_l2 r)
def sp_l3 (r : Nat) : Nat := sp_bb (sp_m3 r) 5 (r % 24 % 6 % 2 / 1)
def sp_m4 (r : Nat) : Nat := sp_rm (sp_m3 r) (sp_l3 r)
def sp_l4 (r : Nat) : Nat := sp_bb (sp_m4 r) 5 (r % 24 % 6 % 2 % 1 / 1)
/-- the r-th row of all five -/
def sp_perm (r j : Nat) : Nat := match j with
  | 0 => sp_l0 r
  | 1 => sp_l1 r
  | 2 => sp_l2 r
  | 3 => sp_l3 r
  | _ => sp_l4 r
theorem sp_perm_lt (r j : Nat) : sp_perm r j < 5 := by
  unfold sp_perm
  split <;> exact sp_bb_lt _ _ _

theorem lp_bitBehind {sc : List Int} {m : xMem} {s : Nat} (hs : s < 32) (u : Int) (i : Nat) (hi : i ≤ 5) (w : Nat) (hw : w < 100) : x_Ex sc 0 xM_B_bitBehind 4 [(3, xi (↑i)), (2, xi (↑w)), (0, xi (↑s)), (1, xi u)] [] m (fun r m' => r = some (xi (sp_bb s (5 - i) w : Nat)) ∧ m' = m) := by
  refine ex_st 2 (pc' := 6) (ls' := [(3, xi (↑i)), (2, xi (↑w)), (0, xi (↑s)), (1, xi u)]) (st' := [xi 5, xi (↑i)]) rfl ?_
  refine ex_ic rfl (by first | (constructor <;> omega) | (rw [z_bit s (by omega) i (by omega)]; split <;> decide)) (by decide) (fun (h0 : (5 : Int) ≤ (↑i : Int)) => ?_) (fun (h0 : ¬ (5 : Int) ≤ (↑i : Int)) => ?_)
  · refine ex_st 1 (pc' := 34) (ls' := [(3, xi (↑i)), (2, xi (↑w)), (0, xi (↑s)), (1, xi u)]) (st' := [xi 0]) rfl ?_
    refine ex_reti rfl rfl ?_
    refine ⟨?_, rfl⟩
    rw [show 5 - i = 0 by omega]; rfl
  · refine ex_st 6 (pc' := 15) (ls' := [(3, xi (↑i)), (2, xi (↑w)), (0, xi (↑s)), (1, xi u)]) (st' := [xi 1, xi (z_and (z_shr (↑s) (↑i)) 1)]) rfl ?_
    refine ex_ic rfl (by first | (constructor <;> omega) | (rw [z_bit s (by omega) i (by omega)]; split <;> decide)) (by decide) (fun (h1 : ¬ (z_and (z_shr (↑s) (↑i)) 1) = 1) => ?_) (fun (h1 : ¬ ¬ (z_and (z_shr (↑s) (↑i)) 1) = 1) => ?_)
    · refine ex_st 2 (pc' := 4) (ls' := [(3, xi ((↑i) + 1)), (2, xi (↑w)), (0, xi (↑s)), (1, xi u)]) (st' := []) rfl ?_
      have hz := z_bit s (by omega) i (by omega)
      rw [show 5 - i = (4 - i) + 1 by omega]; unfold sp_bb
      rw [show 4 - (4 - i) = i by omega]
      have h9 := lp_bitBehind (sc := sc) (m := m) hs u (i + 1) (by omega) w hw
      rw [show 5 - (i + 1) = 4 - i by omega] at h9
      by_cases hb : s.testBit i = true
      · rw [if_pos hb] at hz; exact absurd hz (by assumption)
      · rw [if_neg hb]; exact h9
    · refine ex_st 1 (pc' := 19) (ls' := [(3, xi (↑i)), (2, xi (↑w)), (0, xi (↑s)), (1, xi u)]) (st' := [xi (↑w)]) rfl ?_
      refine ex_if rfl (by first | (constructor <;> omega) | (rw [z_bit s (by omega) i (by omega)]; split <;> decide)) (fun (h2 : ¬ (↑w : Int) = 0) => ?_) (fun (h2 : ¬ ¬ (↑w : Int) = 0) => ?_)
      · refine ex_st 3 (pc' := 4) (ls' := [(3, xi ((↑i) + 1)), (2, xi ((↑w) + (-1))), (0, xi (↑s)), (1, xi u)]) (st' := []) rfl ?_
        have hz := z_bit s (by omega) i (by omega)
        rw [show 5 - i = (4 - i) + 1 by omega]; unfold sp_bb
        rw [show 4 - (4 - i) = i by omega]
        have h9 := lp_bitBehind (sc := sc) (m := m) hs u (i + 1) (by omega) (w - 1) (by omega)
        rw [show 5 - (i + 1) = 4 - i by omega] at h9
        rw [show (((w - 1 : Nat)) : Int) = (w : Int) + (-1) by omega] at h9
        by_cases hb : s.testBit i = true
        · rw [if_pos hb, if_neg (by omega)]; exact h9
        · rw [if_neg hb] at hz; omega
      · refine ex_st 1 (pc' := 23) (ls' := [(3, xi (↑i)), (2, xi (↑w)), (0, xi (↑s)), (1, xi u)]) (st' := [xi (↑i)]) rfl ?_
        refine ex_reti rfl rfl ?_
        refine ⟨?_, rfl⟩
        have hz := z_bit s (by omega) i (by omega)
        rw [show 5 - i = (4 - i) + 1 by omega]; unfold sp_bb
        rw [show 4 - (4 - i) = i by omega]
        by_cases hb : s.testBit i = true
        · rw [if_pos hb, if_pos (by omega)]
        · rw [if_neg hb] at hz; omega
termination_by 5 - i
decreasing_by all_goals omega
theorem ct_B_bitBehind {sc : List Int} {m : xMem} {s w : Nat} (hs : s < 32) (hw : w < 100) : x_CE sc 1 xN_B_bitBehind [xi (↑s), xi (↑w)] m (some (xi (sp_bb s 5 w : Nat))) m := by
  refine x_CE.of (M := xM_B_bitBehind) rfl (Nat.le_of_ble_eq_true rfl) ?_
  refine ex_st 4 (pc' := 4) (ls' := [(3, xi 0), (2, xi (↑w)), (0, xi (↑s)), (1, xi (↑w))]) (st' := []) rfl ?_
  exact lp_bitBehind hs w 0 (by omega) w hw
theorem ct_B_layRow {sc : List Int} {I : Nat → Nat → Int} {L : Nat → Nat → Int64} {n : Nat} (hn : n < 120) : x_CQ sc 2 xN_B_layRow [xr 92, xi (↑n)] (xSH, I, L) (fun r m' => r = none ∧ ∃ I', m' = (xSH, I', L) ∧ (∀ k j, k ≠ 103 → I' k j = I k j) ∧ ∀ j, j < 5 → I' 103 j = ((sp_perm n j : Nat) : Int)) := by
  refine x_CQ.of (M := xM_B_layRow) rfl (Nat.le_of_ble_eq_true rfl) ?_
  refine ex_st 8 (pc' := 11) (ls' := [(4, xi 0), (3, xi (↑n)), (2, xi 31), (0, xr 92), (1, xi (↑n))]) (st' := [xi 5, xi 0]) rfl ?_
  refine ex_st 1 (pc' := 14) (ls' := [(4, xi 0), (3, xi (↑n)), (2, xi 31), (0, xr 92), (1, xi (↑n))]) (st' := []) rfl ?_
  refine ex_st 4 (pc' := 21) (ls' := [(4, xi 0), (3, xi (↑n)), (2, xi 31), (0, xr 92), (1, xi (↑n))]) (st' := [xi 4, xr 1002]) rfl ?_
  refine ex_cald (v := 24) (j := 4) rfl (by decide) rfl (by decide) (by decide) (by decide) rfl ?_
  refine ex_st 7 (pc' := 34) (ls' := [(5, xi 24), (4, xi 0), (3, xi (↑n)), (2, xi 31), (0, xr 92), (1, xi (↑n))]) (st' := [xi 24, xi (↑n), xi 31, xi 0, xr 103]) rfl ?_
  refine ex_idivN (a := n) (b := 24) rfl (by omega) (by decide) (by decide) ?_
  refine ex_call (ct_B_bitBehind (s := 31) (w := (n / 24)) (by decide) (by omega)) (by decide) rfl ⟨rfl, rfl, rfl⟩ ⟨Nat.le_of_ble_eq_true rfl, rfl, rfl⟩ (Nat.le_of_ble_eq_true rfl) rfl ?_
  refine ex_iast (j := 0) rfl (by decide) (rfl : xSH[103]? = some _) (by decide) (by decide) (by decide) ?_
  refine ex_st 5 (pc' := 47) (ls' := [(5, xi 24), (4, xi 0), (3, xi (↑n)), (2, xi 31), (0, xr 92), (1, xi (↑n))]) (st' := [xi 0, xr 103, xi 1, xi 31]) rfl ?_
  refine ex_iald (j := 0) rfl (by decide) (rfl : xSH[103]? = some _) (by decide) (by decide) (by decide) ?_
  refine ex_st 4 (pc' := 52) (ls' := [(5, xi 24), (4, xi 0), (3, xi (↑n)), (2, xi 31), (0, xr 92), (1, xi (↑n))]) (st' := [xi (z_and 31 (z_xor (z_shl 1 (↑(sp_l0 n))) (-1)))]) rfl ?_
  rw [show z_and (31) (z_xor (z_shl 1 ↑(sp_l0 n)) (-1)) = (((sp_m1 n) : Nat) : Int) from (z_rm 31 (by decide) (sp_l0 n) (sp_bb_lt _ _ _)).1]
  have hm1 : (sp_m1 n) < 32 := (z_rm 31 (by decide) (sp_l0 n) (sp_bb_lt _ _ _)).2
  refine ex_st 3 (pc' := 56) (ls' := [(2, xi (↑((sp_m1 n)))), (5, xi 24), (4, xi 0), (3, xi (↑n)), (0, xr 92), (1, xi (↑n))]) (st' := [xi 24, xi (↑n)]) rfl ?_
  refine ex_iremN (a := n) (b := 24) rfl (by omega) (by decide) (by decide) ?_
  refine ex_st 5 (pc' := 11) (ls' := [(4, xi 1), (3, xi (↑(n % 24))), (2, xi (↑((sp_m1 n)))), (5, xi 24), (0, xr 92), (1, xi (↑n))]) (st' := [xi 5, xi 1]) rfl ?_
  refine ex_st 1 (pc' := 14) (ls' := [(4, xi 1), (3, xi (↑(n % 24))), (2, xi (↑((sp_m1 n)))), (5, xi 24), (0, xr 92), (1, xi (↑n))]) (st' := []) rfl ?_
  refine ex_st 4 (pc' := 21) (ls' := [(4, xi 1), (3, xi (↑(n % 24))), (2, xi (↑((sp_m1 n)))), (5, xi 24), (0, xr 92), (1, xi (↑n))]) (st' := [xi 3, xr 1002]) rfl ?_
  refine ex_cald (v := 6) (j := 3) rfl (by decide) rfl (by decide) (by decide) (by decide) rfl ?_
  refine ex_st 7 (pc' := 34) (ls' := [(5, xi 6), (4, xi 1), (3, xi (↑(n % 24))), (2, xi (↑((sp_m1 n)))), (0, xr 92), (1, xi (↑n))]) (st' := [xi 6, xi (↑(n % 24)), xi (↑((sp_m1 n))), xi 1, xr 103]) rfl ?_
  refine ex_idivN (a := ((n % 24))) (b := 6) rfl (by omega) (by decide) (by decide) ?_
  refine ex_call (ct_B_bitBehind (s := (sp_m1 n)) (w := (((n % 24)) / 6)) hm1 (by omega)) (by decide) rfl ⟨rfl, rfl, rfl⟩ ⟨Nat.le_of_ble_eq_true rfl, rfl, rfl⟩ (Nat.le_of_ble_eq_true rfl) rfl ?_
  refine ex_iast (j := 1) rfl (by decide) (rfl : xSH[103]? = some _) (by decide) (by decide) (by decide) ?_
  refine ex_st 5 (pc' := 47) (ls' := [(5, xi 6), (4, xi 1), (3, xi (↑(n % 24))), (2, xi (↑((sp_m1 n)))), (0, xr 92), (1, xi (↑n))]) (st' := [xi 1, xr 103, xi 1, xi (↑((sp_m1 n)))]) rfl ?_
  refine ex_iald (j := 1) rfl (by decide) (rfl : xSH[103]? = some _) (by decide) (by decide) (by decide) ?_
  refine ex_st 4 (pc' := 52) (ls' := [(5, xi 6), (4, xi 1), (3, xi (↑(n % 24))), (2, xi (↑((sp_m1 n)))), (0, xr 92), (1, xi (↑n))]) (st' := [xi (z_and (↑((sp_m1 n))) (z_xor (z_shl 1 (↑(sp_l1 n))) (-1)))]) rfl ?_
  rw [show z_and (↑(sp_m1 n)) (z_xor (z_shl 1 ↑(sp_l1 n)) (-1)) = (((sp_m2 n) : Nat) : Int) from (z_rm (sp_m1 n) hm1 (sp_l1 n) (sp_bb_lt _ _ _)).1]
  have hm2 : (sp_m2 n) < 32 := (z_rm (sp_m1 n) hm1 (sp_l1 n) (sp_bb_lt _ _ _)).2
  refine ex_st 3 (pc' := 56) (ls' := [(2, xi (↑((sp_m2 n)))), (5, xi 6), (4, xi 1), (3, xi (↑(n % 24))), (0, xr 92), (1, xi (↑n))]) (st' := [xi 6, xi (↑(n % 24))]) rfl ?_
  refine ex_iremN (a := ((n % 24))) (b := 6) rfl (by omega) (by decide) (by decide) ?_
  refine ex_st 5 (pc' := 11) (ls' := [(4, xi 2), (3, xi (↑(((n % 24)) % 6))), (2, xi (↑((sp_m2 n)))), (5, xi 6), (0, xr 92), (1, xi (↑n))]) (st' := [xi 5, xi 2]) rfl ?_
  refine ex_st 1 (pc' := 14) (ls' := [(4, xi 2), (3, xi (↑(((n % 24)) % 6))), (2, xi (↑((sp_m2 n)))), (5, xi 6), (0, xr 92), (1, xi (↑n))]) (st' := []) rfl ?_
  refine ex_st 4 (pc' := 21) (ls' := [(4, xi 2), (3, xi (↑(((n % 24)) % 6))), (2, xi (↑((sp_m2 n)))), (5, xi 6), (0, xr 92), (1, xi (↑n))]) (st' := [xi 2, xr 1002]) rfl ?_
  refine ex_cald (v := 2) (j := 2) rfl (by decide) rfl (by decide) (by decide) (by decide) rfl ?_
  refine ex_st 7 (pc' := 34) (ls' := [(5, xi 2), (4, xi 2), (3, xi (↑(((n % 24)) % 6))), (2, xi (↑((sp_m2 n)))), (0, xr 92), (1, xi (↑n))]) (st' := [xi 2, xi (↑(((n % 24)) % 6)), xi (↑((sp_m2 n))), xi 2, xr 103]) rfl ?_
  refine ex_idivN (a := ((((n % 24)) % 6))) (b := 2) rfl (by omega) (by decide) (by decide) ?_
  refine ex_call (ct_B_bitBehind (s := (sp_m2 n)) (w := (((((n % 24)) % 6)) / 2)) hm2 (by omega)) (by decide) rfl ⟨rfl, rfl, rfl⟩ ⟨Nat.le_of_ble_eq_true rfl, rfl, rfl⟩ (Nat.le_of_ble_eq_true rfl) rfl ?_
  refine ex_iast (j := 2) rfl (by decide) (rfl : xSH[103]? = some _) (by decide) (by decide) (by decide) ?_
  refine ex_st 5 (pc' := 47) (ls' := [(5, xi 2), (4, xi 2), (3, xi (↑(((n % 24)) % 6))), (2, xi (↑((sp_m2 n)))), (0, xr 92), (1, xi (↑n))]) (st' := [xi 2, xr 103, xi 1, xi (↑((sp_m2 n)))]) rfl ?_
  refine ex_iald (j := 2) rfl (by decide) (rfl : xSH[103]? = some _) (by decide) (by decide) (by decide) ?_
  refine ex_st 4 (pc' := 52) (ls' := [(5, xi 2), (4, xi 2), (3, xi (↑(((n % 24)) % 6))), (2, xi (↑((sp_m2 n)))), (0, xr 92), (1, xi (↑n))]) (st' := [xi (z_and (↑((sp_m2 n))) (z_xor (z_shl 1 (↑(sp_l2 n))) (-1)))]) rfl ?_
  rw [show z_and (↑(sp_m2 n)) (z_xor (z_shl 1 ↑(sp_l2 n)) (-1)) = (((sp_m3 n) : Nat) : Int) from (z_rm (sp_m2 n) hm2 (sp_l2 n) (sp_bb_lt _ _ _)).1]
  have hm3 : (sp_m3 n) < 32 := (z_rm (sp_m2 n) hm2 (sp_l2 n) (sp_bb_lt _ _ _)).2
  refine ex_st 3 (pc' := 56) (ls' := [(2, xi (↑((sp_m3 n)))), (5, xi 2), (4, xi 2), (3, xi (↑(((n % 24)) % 6))), (0, xr 92), (1, xi (↑n))]) (st' := [xi 2, xi (↑(((n % 24)) % 6))]) rfl ?_
  refine ex_iremN (a := ((((n % 24)) % 6))) (b := 2) rfl (by omega) (by decide) (by decide) ?_
  refine ex_st 5 (pc' := 11) (ls' := [(4, xi 3), (3, xi (↑(((((n % 24)) % 6)) % 2))), (2, xi (↑((sp_m3 n)))), (5, xi 2), (0, xr 92), (1, xi (↑n))]) (st' := [xi 5, xi 3]) rfl ?_
  refine ex_st 1 (pc' := 14) (ls' := [(4, xi 3), (3, xi (↑(((((n % 24)) % 6)) % 2))), (2, xi (↑((sp_m3 n)))), (5, xi 2), (0, xr 92), (1, xi (↑n))]) (st' := []) rfl ?_
  refine ex_st 4 (pc' := 21) (ls' := [(4, xi 3), (3, xi (↑(((((n % 24)) % 6)) % 2))), (2, xi (↑((sp_m3 n)))), (5, xi 2), (0, xr 92), (1, xi (↑n))]) (st' := [xi 1, xr 1002]) rfl ?_
  refine ex_cald (v := 1) (j := 1) rfl (by decide) rfl (by decide) (by decide) (by decide) rfl ?_
  refine ex_st 7 (pc' := 34) (ls' := [(5, xi 1), (4, xi 3), (3, xi (↑(((((n % 24)) % 6)) % 2))), (2, xi (↑((sp_m3 n)))), (0, xr 92), (1, xi (↑n))]) (st' := [xi 1, xi (↑(((((n % 24)) % 6)) % 2)), xi (↑((sp_m3 n))), xi 3, xr 103]) rfl ?_
  refine ex_idivN (a := ((((((n % 24)) % 6)) % 2))) (b := 1) rfl (by omega) (by decide) (by decide) ?_
  refine ex_call (ct_B_bitBehind (s := (sp_m3 n)) (w := (((((((n % 24)) % 6)) % 2)) / 1)) hm3 (by omega)) (by decide) rfl ⟨rfl, rfl, rfl⟩ ⟨Nat.le_of_ble_eq_true rfl, rfl, rfl⟩ (Nat.le_of_ble_eq_true rfl) rfl ?_
  refine ex_iast (j := 3) rfl (by decide) (rfl : xSH[103]? = some _) (by decide) (by decide) (by decide) ?_
  refine ex_st 5 (pc' := 47) (ls' := [(5, xi 1), (4, xi 3), (3, xi (↑(((((n % 24)) % 6)) % 2))), (2, xi (↑((sp_m3 n)))), (0, xr 92), (1, xi (↑n))]) (st' := [xi 3, xr 103, xi 1, xi (↑((sp_m3 n)))]) rfl ?_
  refine ex_iald (j := 3) rfl (by decide) (rfl : xSH[103]? = some _) (by decide) (by decide) (by decide) ?_
  refine ex_st 4 (pc' := 52) (ls' := [(5, xi 1), (4, xi 3), (3, xi (↑(((((n % 24)) % 6)) % 2))), (2, xi (↑((sp_m3 n)))), (0, xr 92), (1, xi (↑n))]) (st' := [xi (z_and (↑((sp_m3 n))) (z_xor (z_shl 1 (↑(sp_l3 n))) (-1)))]) rfl ?_
  rw [show z_and (↑(sp_m3 n)) (z_xor (z_shl 1 ↑(sp_l3 n)) (-1)) = (((sp_m4 n) : Nat) : Int) from (z_rm (sp_m3 n) hm3 (sp_l3 n) (sp_bb_lt _ _ _)).1]
  have hm4 : (sp_m4 n) < 32 := (z_rm (sp_m3 n) hm3 (sp_l3 n) (sp_bb_lt _ _ _)).2
  refine ex_st 3 (pc' := 56) (ls' := [(2, xi (↑((sp_m4 n)))), (5, xi 1), (4, xi 3), (3, xi (↑(((((n % 24)) % 6)) % 2))), (0, xr 92), (1, xi (↑n))]) (st' := [xi 1, xi (↑(((((n % 24)) % 6)) % 2))]) rfl ?_
  refine ex_iremN (a := ((((((n % 24)) % 6)) % 2))) (b := 1) rfl (by omega) (by decide) (by decide) ?_
  refine ex_st 5 (pc' := 11) (ls' := [(4, xi 4), (3, xi (↑(((((((n % 24)) % 6)) % 2)) % 1))), (2, xi (↑((sp_m4 n)))), (5, xi 1), (0, xr 92), (1, xi (↑n))]) (st' := [xi 5, xi 4]) rfl ?_
  refine ex_st 1 (pc' := 14) (ls' := [(4, xi 4), (3, xi (↑(((((((n % 24)) % 6)) % 2)) % 1))), (2, xi (↑((sp_m4 n)))), (5, xi 1), (0, xr 92), (1, xi (↑n))]) (st' := []) rfl ?_
  refine ex_st 4 (pc' := 21) (ls' := [(4, xi 4), (3, xi (↑(((((((n % 24)) % 6)) % 2)) % 1))), (2, xi (↑((sp_m4 n)))), (5, xi 1), (0, xr 92), (1, xi (↑n))]) (st' := [xi 0, xr 1002]) rfl ?_
  refine ex_cald (v := 1) (j := 0) rfl (by decide) rfl (by decide) (by decide) (by decide) rfl ?_
  refine ex_st 7 (pc' := 34) (ls' := [(5, xi 1), (4, xi 4), (3, xi (↑(((((((n % 24)) % 6)) % 2)) % 1))), (2, xi (↑((sp_m4 n)))), (0, xr 92), (1, xi (↑n))]) (st' := [xi 1, xi (↑(((((((n % 24)) % 6)) % 2)) % 1)), xi (↑((sp_m4 n))), xi 4, xr 103]) rfl ?_
  refine ex_idivN (a := ((((((((n % 24)) % 6)) % 2)) % 1))) (b := 1) rfl (by omega) (by decide) (by decide) ?_
  refine ex_call (ct_B_bitBehind (s := (sp_m4 n)) (w := (((((((((n % 24)) % 6)) % 2)) % 1)) / 1)) hm4 (by omega)) (by decide) rfl ⟨rfl, rfl, rfl⟩ ⟨Nat.le_of_ble_eq_true rfl, rfl, rfl⟩ (Nat.le_of_ble_eq_true rfl) rfl ?_
  refine ex_iast (j := 4) rfl (by decide) (rfl : xSH[103]? = some _) (by decide) (by decide) (by decide) ?_
  refine ex_st 5 (pc' := 47) (ls' := [(5, xi 1), (4, xi 4), (3, xi (↑(((((((n % 24)) % 6)) % 2)) % 1))), (2, xi (↑((sp_m4 n)))), (0, xr 92), (1, xi (↑n))]) (st' := [xi 4, xr 103, xi 1, xi (↑((sp_m4 n)))]) rfl ?_
  refine ex_iald (j := 4) rfl (by decide) (rfl : xSH[103]? = some _) (by decide) (by decide) (by decide) ?_
  refine ex_st 4 (pc' := 52) (ls' := [(5, xi 1), (4, xi 4), (3, xi (↑(((((((n % 24)) % 6)) % 2)) % 1))), (2, xi (↑((sp_m4 n)))), (0, xr 92), (1, xi (↑n))]) (st' := [xi (z_and (↑((sp_m4 n))) (z_xor (z_shl 1 (↑(sp_l4 n))) (-1)))]) rfl ?_
  rw [show z_and (↑(sp_m4 n)) (z_xor (z_shl 1 ↑(sp_l4 n)) (-1)) = ((sp_rm (sp_m4 n) (sp_l4 n) : Nat) : Int) from (z_rm (sp_m4 n) hm4 (sp_l4 n) (sp_bb_lt _ _ _)).1]
  refine ex_st 3 (pc' := 56) (ls' := [(2, xi (↑(sp_rm (sp_m4 n) (sp_l4 n)))), (5, xi 1), (4, xi 4), (3, xi (↑(((((((n % 24)) % 6)) % 2)) % 1))), (0, xr 92), (1, xi (↑n))]) (st' := [xi 1, xi (↑(((((((n % 24)) % 6)) % 2)) % 1))]) rfl ?_
  refine ex_iremN (a := ((((((((n % 24)) % 6)) % 2)) % 1))) (b := 1) rfl (by omega) (by decide) (by decide) ?_
  refine ex_st 5 (pc' := 11) (ls' := [(4, xi 5), (3, xi (↑(((((((((n % 24)) % 6)) % 2)) % 1)) % 1))), (2, xi (↑(sp_rm (sp_m4 n) (sp_l4 n)))), (5, xi 1), (0, xr 92), (1, xi (↑n))]) (st' := [xi 5, xi 5]) rfl ?_
  refine ex_st 1 (pc' := 64) (ls' := [(4, xi 5), (3, xi (↑(((((((((n % 24)) % 6)) % 2)) % 1)) % 1))), (2, xi (↑(sp_rm (sp_m4 n) (sp_l4 n)))), (5, xi 1), (0, xr 92), (1, xi (↑n))]) (st' := []) rfl ?_
  refine ex_retv rfl rfl ?_
  refine ⟨rfl, _, rfl, fun a b h => by simp [x_up, h], fun j hj => ?_⟩
  rcases (show j = 0 ∨ j = 1 ∨ j = 2 ∨ j = 3 ∨ j = 4 by omega) with rfl | rfl | rfl | rfl | rfl <;> rfl
/-- how many of the first rows end with x done -/
def sp_rows (B : Nat → Nat → Bool) (x : Int) : Nat → Nat
  | 0 => 0
  | n + 1 => sp_rows B x n + (if ((sp_dn B (sp_perm n) 4 : Nat) : Int) = x then 1 else 0)
theorem sp_rows_le (B : Nat → Nat → Bool) (x : Int) : ∀ n, sp_rows B x n ≤ n
  | 0 => Nat.le_refl _
  | n + 1 => by
    have := sp_rows_le B x n
    unfold sp_rows
    split <;> omega
/-- the k-th place of the first row from n on (so many are left) that ends with x done -/
def sp_place (B : Nat → Nat → Bool) (x : Int) (k : Nat) : Nat → Nat → Int
  | 0, _ => -5
  | f + 1, n => if ((sp_dn B (sp_perm n) 4 : Nat) : Int) = x then ((sp_perm n k : Nat) : Int) else sp_place B x k f (n + 1)
theorem BM.fr {I I' : Nat → Nat → Int} {B : Nat → Nat → Bool} (h : BM I B) (hf : ∀ k j, k ≠ 103 → I' k j = I k j) : BM I' B := fun a ha => by rw [hf _ _ (by decide)]; exact h a ha

theorem lp_rowsFor {sc : List Int} {I : Nat → Nat → Int} {L : Nat → Nat → Int64} {B : Nat → Nat → Bool} (hM : BM I B) {x : Int} (hx : x_R x) {I1 : Nat → Nat → Int} (hF : ∀ k j, k ≠ 103 → I1 k j = I k j) (i : Nat) (hi : i ≤ 120) : x_Ex sc 2 xM_B_rowsFor 4 [(3, xi (↑i)), (2, xi (↑(sp_rows B x i))), (0, xr 92), (1, xi x)] [] (xSH, I1, L) (fun r m' => r = some (xi (sp_rows B x 120 : Nat)) ∧ ∃ I', m' = (xSH, I', L) ∧ ∀ k j, k ≠ 103 → I' k j = I k j) := by
  refine ex_st 3 (pc' := 9) (ls' := [(3, xi (↑i)), (2, xi (↑(sp_rows B x i))), (0, xr 92), (1, xi x)]) (st' := [xi 5, xr 1002, xi (↑i)]) rfl ?_
  refine ex_cald (v := 120) (j := 5) rfl (by decide) rfl (by decide) (by decide) (by decide) rfl ?_
  refine ex_ic rfl (by first | (constructor <;> omega) | (have := sp_dn_lt (B := B) (g := sp_perm i) (N := 5) (fun j _ => sp_perm_lt i j) 4 (by decide); constructor <;> omega)) (by decide) (fun (h0 : (120 : Int) ≤ (↑i : Int)) => ?_) (fun (h0 : ¬ (120 : Int) ≤ (↑i : Int)) => ?_)
  · refine ex_st 1 (pc' := 41) (ls' := [(3, xi (↑i)), (2, xi (↑(sp_rows B x i))), (0, xr 92), (1, xi x)]) (st' := [xi (↑(sp_rows B x i))]) rfl ?_
    refine ex_reti rfl rfl ?_
    exact ⟨by rw [show i = 120 by omega], I1, rfl, hF⟩
  · refine ex_st 2 (pc' := 15) (ls' := [(3, xi (↑i)), (2, xi (↑(sp_rows B x i))), (0, xr 92), (1, xi x)]) (st' := [xi (↑i), xr 92]) rfl ?_
    refine ex_callQ (ct_B_layRow (n := i) (by omega)) (by decide) rfl ⟨rfl, rfl, rfl⟩ ⟨Nat.le_of_ble_eq_true rfl, rfl, rfl⟩ (Nat.le_of_ble_eq_true rfl) rfl (fun ra m2 hQ => ?_)
    obtain ⟨rfl, I2, rfl, hF2, hP2⟩ := hQ
    have hF3 : ∀ k j, k ≠ 103 → I2 k j = I k j := fun k j h => by rw [hF2 k j h]; exact hF k j h
    refine ex_st 4 (pc' := 24) (ls' := [(3, xi (↑i)), (2, xi (↑(sp_rows B x i))), (0, xr 92), (1, xi x)]) (st' := [xi 5, xr 103, xr 92]) rfl ?_
    refine ex_call (ct_B_doneBy (k := 103) (hM.fr hF3) (by decide) rfl (n := 5) (by decide) (g := sp_perm i) (fun j hj => ⟨hP2 j hj, sp_perm_lt _ _⟩)) (by decide) rfl ⟨rfl, rfl, rfl⟩ ⟨Nat.le_of_ble_eq_true rfl, rfl, rfl⟩ (Nat.le_of_ble_eq_true rfl) rfl ?_
    refine ex_st 1 (pc' := 28) (ls' := [(3, xi (↑i)), (2, xi (↑(sp_rows B x i))), (0, xr 92), (1, xi x)]) (st' := [xi x, xi (↑(sp_dn B (sp_perm i) 4))]) rfl ?_
    refine ex_ic rfl (by first | (constructor <;> omega) | (have := sp_dn_lt (B := B) (g := sp_perm i) (N := 5) (fun j _ => sp_perm_lt i j) 4 (by decide); constructor <;> omega)) (by first | (constructor <;> omega) | (have := sp_dn_lt (B := B) (g := sp_perm i) (N := 5) (fun j _ => sp_perm_lt i j) 4 (by decide); constructor <;> omega)) (fun (h1 : ¬ (↑(sp_dn B (sp_perm i) 4) : Int) = x) => ?_) (fun (h1 : ¬ ¬ (↑(sp_dn B (sp_perm i) 4) : Int) = x) => ?_)
    · refine ex_st 2 (pc' := 4) (ls' := [(3, xi ((↑i) + 1)), (2, xi (↑(sp_rows B x i))), (0, xr 92), (1, xi x)]) (st' := []) rfl ?_
      have h9 := lp_rowsFor (sc := sc) (L := L) hM hx hF3 (i + 1) (by omega)
      unfold sp_rows at h9
      rw [if_neg (by assumption)] at h9
      exact h9
    · refine ex_st 3 (pc' := 4) (ls' := [(3, xi ((↑i) + 1)), (2, xi ((↑(sp_rows B x i)) + 1)), (0, xr 92), (1, xi x)]) (st' := []) rfl ?_
      have h9 := lp_rowsFor (sc := sc) (L := L) hM hx hF3 (i + 1) (by omega)
      unfold sp_rows at h9
      rw [if_pos (by first | assumption | omega)] at h9
      exact h9
termination_by 120 - i
decreasing_by all_goals omega
theorem ct_B_rowsFor {sc : List Int} {I : Nat → Nat → Int} {L : Nat → Nat → Int64} {B : Nat → Nat → Bool} (hM : BM I B) {x : Int} (hx : x_R x) : x_CQ sc 3 xN_B_rowsFor [xr 92, xi x] (xSH, I, L) (fun r m' => r = some (xi (sp_rows B x 120 : Nat)) ∧ ∃ I', m' = (xSH, I', L) ∧ ∀ k j, k ≠ 103 → I' k j = I k j) := by
  refine x_CQ.of (M := xM_B_rowsFor) rfl (Nat.le_of_ble_eq_true rfl) ?_
  refine ex_st 4 (pc' := 4) (ls' := [(3, xi 0), (2, xi 0), (0, xr 92), (1, xi x)]) (st' := []) rfl ?_
  exact lp_rowsFor hM hx (fun _ _ _ => rfl) 0 (by omega)
theorem lp_place {sc : List Int} {I : Nat → Nat → Int} {L : Nat → Nat → Int64} {B : Nat → Nat → Bool} (hM : BM I B) {x : Int} (hx : x_R x) {k : Nat} (hk : k < 5) {I1 : Nat → Nat → Int} (hF : ∀ k j, k ≠ 103 → I1 k j = I k j) (i : Nat) (hi : i ≤ 120) : x_Ex sc 2 xM_B_placeInFirstRowFor 2 [(3, xi (↑i)), (0, xr 92), (1, xi x), (2, xi (↑k))] [] (xSH, I1, L) (fun r m' => r = some (xi (sp_place B x k (120 - i) i)) ∧ ∃ I', m' = (xSH, I', L) ∧ ∀ k j, k ≠ 103 → I' k j = I k j) := by
  refine ex_st 3 (pc' := 7) (ls' := [(3, xi (↑i)), (0, xr 92), (1, xi x), (2, xi (↑k))]) (st' := [xi 5, xr 1002, xi (↑i)]) rfl ?_
  refine ex_cald (v := 120) (j := 5) rfl (by decide) rfl (by decide) (by decide) (by decide) rfl ?_
  refine ex_ic rfl (by first | (constructor <;> omega) | (have := sp_dn_lt (B := B) (g := sp_perm i) (N := 5) (fun j _ => sp_perm_lt i j) 4 (by decide); constructor <;> omega)) (by decide) (fun (h0 : (120 : Int) ≤ (↑i : Int)) => ?_) (fun (h0 : ¬ (120 : Int) ≤ (↑i : Int)) => ?_)
  · refine ex_st 1 (pc' := 44) (ls' := [(3, xi (↑i)), (0, xr 92), (1, xi x), (2, xi (↑k))]) (st' := [xi (-5)]) rfl ?_
    refine ex_reti rfl rfl ?_
    exact ⟨by rw [show 120 - i = 0 by omega]; rfl, I1, rfl, hF⟩
  · refine ex_st 2 (pc' := 13) (ls' := [(3, xi (↑i)), (0, xr 92), (1, xi x), (2, xi (↑k))]) (st' := [xi (↑i), xr 92]) rfl ?_
    refine ex_callQ (ct_B_layRow (n := i) (by omega)) (by decide) rfl ⟨rfl, rfl, rfl⟩ ⟨Nat.le_of_ble_eq_true rfl, rfl, rfl⟩ (Nat.le_of_ble_eq_true rfl) rfl (fun ra m2 hQ => ?_)
    obtain ⟨rfl, I2, rfl, hF2, hP2⟩ := hQ
    have hF3 : ∀ k j, k ≠ 103 → I2 k j = I k j := fun k j h => by rw [hF2 k j h]; exact hF k j h
    refine ex_st 4 (pc' := 22) (ls' := [(3, xi (↑i)), (0, xr 92), (1, xi x), (2, xi (↑k))]) (st' := [xi 5, xr 103, xr 92]) rfl ?_
    refine ex_call (ct_B_doneBy (k := 103) (hM.fr hF3) (by decide) rfl (n := 5) (by decide) (g := sp_perm i) (fun j hj => ⟨hP2 j hj, sp_perm_lt _ _⟩)) (by decide) rfl ⟨rfl, rfl, rfl⟩ ⟨Nat.le_of_ble_eq_true rfl, rfl, rfl⟩ (Nat.le_of_ble_eq_true rfl) rfl ?_
    refine ex_st 1 (pc' := 26) (ls' := [(3, xi (↑i)), (0, xr 92), (1, xi x), (2, xi (↑k))]) (st' := [xi x, xi (↑(sp_dn B (sp_perm i) 4))]) rfl ?_
    refine ex_ic rfl (by first | (constructor <;> omega) | (have := sp_dn_lt (B := B) (g := sp_perm i) (N := 5) (fun j _ => sp_perm_lt i j) 4 (by decide); constructor <;> omega)) (by first | (constructor <;> omega) | (have := sp_dn_lt (B := B) (g := sp_perm i) (N := 5) (fun j _ => sp_perm_lt i j) 4 (by decide); constructor <;> omega)) (fun (h1 : ¬ (↑(sp_dn B (sp_perm i) 4) : Int) = x) => ?_) (fun (h1 : ¬ ¬ (↑(sp_dn B (sp_perm i) 4) : Int) = x) => ?_)
    · refine ex_st 2 (pc' := 2) (ls' := [(3, xi ((↑i) + 1)), (0, xr 92), (1, xi x), (2, xi (↑k))]) (st' := []) rfl ?_
      have h9 := lp_place (sc := sc) (L := L) hM hx hk hF3 (i + 1) (by omega)
      rw [show 120 - (i + 1) = 119 - i by omega] at h9
      rw [show 120 - i = (119 - i) + 1 by omega]; unfold sp_place
      rw [if_neg (by assumption)]
      exact h9
    · refine ex_st 3 (pc' := 34) (ls' := [(3, xi (↑i)), (0, xr 92), (1, xi x), (2, xi (↑k))]) (st' := [xi (↑k), xr 103]) rfl ?_
      refine ex_iald (j := k) rfl (by decide) (rfl : xSH[103]? = some _) (by omega) (by omega) (by decide) ?_
      refine ex_reti rfl rfl ?_
      exact ⟨by rw [show 120 - i = (119 - i) + 1 by omega]; unfold sp_place; rw [if_pos (by first | assumption | omega), hP2 k hk], I2, rfl, hF3⟩
termination_by 120 - i
decreasing_by all_goals omega
theorem ct_B_placeInFirstRowFor {sc : List Int} {I : Nat → Nat → Int} {L : Nat → Nat → Int64} {B : Nat → Nat → Bool} (hM : BM I B) {x : Int} (hx : x_R x) {k : Nat} (hk : k < 5) : x_CQ sc 3 xN_B_placeInFirstRowFor [xr 92, xi x, xi (↑k)] (xSH, I, L) (fun r m' => r = some (xi (sp_place B x k 120 0)) ∧ ∃ I', m' = (xSH, I', L) ∧ ∀ k j, k ≠ 103 → I' k j = I k j) := by
  refine x_CQ.of (M := xM_B_placeInFirstRowFor) rfl (Nat.le_of_ble_eq_true rfl) ?_
  refine ex_st 2 (pc' := 2) (ls' := [(3, xi 0), (0, xr 92), (1, xi x), (2, xi (↑k))]) (st' := []) rfl ?_
  exact lp_place hM hx hk (fun _ _ _ => rfl) 0 (by omega)
def sp_never (B : Nat → Nat → Bool) (x : Nat) : Bool := decide (sp_rows B (x : Int) 120 = 0)

theorem lp_neverDone {sc : List Int} {I : Nat → Nat → Int} {L : Nat → Nat → Int64} {B : Nat → Nat → Bool} (hM : BM I B) {I1 : Nat → Nat → Int} (hF : ∀ k j, k ≠ 103 → I1 k j = I k j) (i : Nat) (hi : i ≤ 5) : x_Ex sc 3 xM_B_neverDone 4 [(2, xi (↑i)), (1, xi (sp_mask (sp_never B) i)), (0, xr 92)] [] (xSH, I1, L) (fun r m' => r = some (xi (sp_mask (sp_never B) 5)) ∧ ∃ I', m' = (xSH, I', L) ∧ ∀ k j, k ≠ 103 → I' k j = I k j) := by
  refine ex_st 2 (pc' := 6) (ls' := [(2, xi (↑i)), (1, xi (sp_mask (sp_never B) i)), (0, xr 92)]) (st' := [xi 5, xi (↑i)]) rfl ?_
  refine ex_ic rfl (by constructor <;> omega) (by decide) (fun (h0 : (5 : Int) ≤ (↑i : Int)) => ?_) (fun (h0 : ¬ (5 : Int) ≤ (↑i : Int)) => ?_)
  · refine ex_st 1 (pc' := 30) (ls' := [(2, xi (↑i)), (1, xi (sp_mask (sp_never B) i)), (0, xr 92)]) (st' := [xi (sp_mask (sp_never B) i)]) rfl ?_
    refine ex_reti rfl rfl ?_
    exact ⟨by rw [show i = 5 by omega], I1, rfl, hF⟩
  · refine ex_st 2 (pc' := 11) (ls' := [(2, xi (↑i)), (1, xi (sp_mask (sp_never B) i)), (0, xr 92)]) (st' := [xi (↑i), xr 92]) rfl ?_
    refine ex_callQ (ct_B_rowsFor (x := ↑i) (hM.fr hF) (by constructor <;> omega)) (by decide) rfl ⟨rfl, rfl, rfl⟩ ⟨Nat.le_of_ble_eq_true rfl, rfl, rfl⟩ (Nat.le_of_ble_eq_true rfl) rfl (fun ra m2 hQ => ?_)
    obtain ⟨rfl, I2, rfl, hF2⟩ := hQ
    have hF3 : ∀ k j, k ≠ 103 → I2 k j = I k j := fun k j h => by rw [hF2 k j h]; exact hF k j h
    have hle := sp_rows_le B (↑i) 120
    refine ex_if rfl (by constructor <;> omega) (fun (h1 : ¬ (↑(sp_rows B (↑i) 120) : Int) = 0) => ?_) (fun (h1 : ¬ ¬ (↑(sp_rows B (↑i) 120) : Int) = 0) => ?_)
    · refine ex_st 2 (pc' := 4) (ls' := [(2, xi ((↑i) + 1)), (1, xi (sp_mask (sp_never B) i)), (0, xr 92)]) (st' := []) rfl ?_
      have h9 := lp_neverDone (sc := sc) (L := L) hM hF3 (i + 1) (by omega)
      rw [show sp_mask (sp_never B) (i + 1) = sp_mask (sp_never B) i + (if sp_never B i = true then 2 ^ i else 0) from rfl, if_neg (by simp only [sp_never, decide_eq_true_eq]; omega), Int.add_zero] at h9
      exact h9
    · refine ex_st 8 (pc' := 4) (ls' := [(2, xi ((↑i) + 1)), (1, xi (z_or (sp_mask (sp_never B) i) (z_shl 1 (↑i)))), (0, xr 92)]) (st' := []) rfl ?_
      have h9 := lp_neverDone (sc := sc) (L := L) hM hF3 (i + 1) (by omega)
      rw [show sp_mask (sp_never B) (i + 1) = sp_mask (sp_never B) i + (if sp_never B i = true then 2 ^ i else 0) from rfl, if_pos (by simp only [sp_never, decide_eq_true_eq]; omega)] at h9
      rw [sp_mask_or _ (by omega)]
      exact h9
termination_by 5 - i
decreasing_by all_goals omega
theorem ct_B_neverDone {sc : List Int} {I : Nat → Nat → Int} {L : Nat → Nat → Int64} {B : Nat → Nat → Bool} (hM : BM I B) : x_CQ sc 4 xN_B_neverDone [xr 92] (xSH, I, L) (fun r m' => r = some (xi (sp_mask (sp_never B) 5)) ∧ ∃ I', m' = (xSH, I', L) ∧ ∀ k j, k ≠ 103 → I' k j = I k j) := by
  refine x_CQ.of (M := xM_B_neverDone) rfl (Nat.le_of_ble_eq_true rfl) ?_
  refine ex_st 4 (pc' := 4) (ls' := [(2, xi 0), (1, xi 0), (0, xr 92)]) (st' := []) rfl ?_
  exact lp_neverDone hM (fun _ _ _ => rfl) 0 (by omega)
