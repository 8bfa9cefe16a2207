/-! the reference's turns -/
def sp_d0 (v : Nat) : Nat := v % 5
def sp_d1 (v : Nat) : Nat := v / 5 % 5
def sp_d2 (v : Nat) : Nat := v / 5 / 5 % 5
def sp_d3 (v : Nat) : Nat := v / 5 / 5 / 5 % 5
def sp_d4 (v : Nat) : Nat := v / 5 / 5 / 5 / 5 % 5
def sp_u1 (v : Nat) : Nat := 0 ||| 2 ^ sp_d0 v
def sp_u2 (v : Nat) : Nat := sp_u1 v ||| 2 ^ sp_d1 v
def sp_u3 (v : Nat) : Nat := sp_u2 v ||| 2 ^ sp_d2 v
def sp_u4 (v : Nat) : Nat := sp_u3 v ||| 2 ^ sp_d3 v
/-- whether the digits of v are all five -/
def sp_ok (v : Nat) : Bool := !(sp_u1 v).testBit (sp_d1 v) && (!(sp_u2 v).testBit (sp_d2 v) && (!(sp_u3 v).testBit (sp_d3 v) && !(sp_u4 v).testBit (sp_d4 v)))
def sp_tn (v j : Nat) : Nat := match j with
  | 0 => sp_d4 v
  | 1 => sp_d3 v
  | 2 => sp_d2 v
  | 3 => sp_d1 v
  | _ => sp_d0 v
theorem sp_tn_lt (v j : Nat) : sp_tn v j < 5 := by
  unfold sp_tn sp_d0 sp_d1 sp_d2 sp_d3 sp_d4
  split <;> omega
def sp_mrows (B : Nat → Nat → Bool) (x : Int) : Nat → Nat
  | 0 => 0
  | n + 1 => sp_mrows B x n + (if sp_ok n = true ∧ ((sp_dn B (sp_tn n) 4 : Nat) : Int) = x then 1 else 0)
def sp_mplace (B : Nat → Nat → Bool) (x : Int) (k : Nat) : Nat → Nat → Int
  | 0, _ => -5
  | f + 1, n => if sp_ok n = true ∧ ((sp_dn B (sp_tn n) 4 : Nat) : Int) = x then ((sp_tn n k : Nat) : Int) else sp_mplace B x k f (n + 1)
def sp_l5 (g : Nat → Nat) : List Nat := [g 0, g 1, g 2, g 3, g 4]
def sp_g5 (l : List Nat) (j : Nat) : Nat := (l[j]?).getD 0
theorem sp_turns : ((List.range' 0 3125).filter sp_ok).map (fun v => sp_l5 (sp_tn v)) = (List.range' 0 120).map (fun r => sp_l5 (sp_perm r)) := by decide +kernel
theorem sp_dn_congr {B : Nat → Nat → Bool} {g g' : Nat → Nat} : ∀ n, (∀ j, j ≤ n → g j = g' j) → sp_dn B g n = sp_dn B g' n
  | 0, h => h 0 (by omega)
  | n + 1, h => by
    unfold sp_dn
    rw [sp_dn_congr n (fun j hj => h j (by omega)), h (n + 1) (by omega)]
theorem sp_g5l (g : Nat → Nat) : ∀ j, j ≤ 4 → sp_g5 (sp_l5 g) j = g j := fun j hj => by
  rcases (show j = 0 ∨ j = 1 ∨ j = 2 ∨ j = 3 ∨ j = 4 by omega) with rfl | rfl | rfl | rfl | rfl <;> rfl
def sp_hit (B : Nat → Nat → Bool) (x : Int) (l : List Nat) : Bool := decide (((sp_dn B (sp_g5 l) 4 : Nat) : Int) = x)
theorem sp_hit5 (B : Nat → Nat → Bool) (x : Int) (g : Nat → Nat) : sp_hit B x (sp_l5 g) = decide (((sp_dn B g 4 : Nat) : Int) = x) := by
  unfold sp_hit
  rw [sp_dn_congr 4 (sp_g5l g)]
theorem sp_mrows_l (B : Nat → Nat → Bool) (x : Int) : ∀ n, sp_mrows B x n = (((List.range' 0 n).filter sp_ok).map (fun v => sp_l5 (sp_tn v))).countP (sp_hit B x)
  | 0 => rfl
  | n + 1 => by
    rw [List.range'_concat, List.filter_append, List.map_append, List.countP_append, ← sp_mrows_l B x n]
    simp only [sp_mrows, Nat.zero_add, Nat.one_mul]
    congr 1
    by_cases h : sp_ok n = true
    · rw [List.filter_cons_of_pos h]
      simp only [List.filter_nil, List.map_cons, List.map_nil, List.countP_cons, List.countP_nil, sp_hit5, h, true_and, decide_eq_true_eq, Nat.zero_add]
    · rw [List.filter_cons_of_neg h]
      simp [h]
theorem sp_rows_l (B : Nat → Nat → Bool) (x : Int) : ∀ n, sp_rows B x n = ((List.range' 0 n).map (fun r => sp_l5 (sp_perm r))).countP (sp_hit B x)
  | 0 => rfl
  | n + 1 => by
    rw [List.range'_concat, List.map_append, List.countP_append, ← sp_rows_l B x n]
    simp only [sp_rows, Nat.zero_add, Nat.one_mul, List.map_cons, List.map_nil, List.countP_cons, List.countP_nil, sp_hit5, decide_eq_true_eq]
theorem sp_mrows_eq (B : Nat → Nat → Bool) (x : Int) : sp_mrows B x 3125 = sp_rows B x 120 := by rw [sp_mrows_l, sp_rows_l, sp_turns]
def sp_res (k : Nat) (l : Option (List Nat)) : Int := match l with
  | some l => ((sp_g5 l k : Nat) : Int)
  | none => -5
theorem sp_mplace_l (B : Nat → Nat → Bool) (x : Int) {k : Nat} (hk : k < 5) : ∀ f n, sp_mplace B x k f n = sp_res k ((((List.range' n f).filter sp_ok).map (fun v => sp_l5 (sp_tn v))).find? (sp_hit B x))
  | 0, _ => rfl
  | f + 1, n => by
    rw [List.range'_succ]
    simp only [sp_mplace]
    by_cases h : sp_ok n = true
    · rw [List.filter_cons_of_pos h, List.map_cons]
      by_cases h2 : ((sp_dn B (sp_tn n) 4 : Nat) : Int) = x
      · rw [if_pos ⟨h, h2⟩, List.find?_cons_of_pos (by rw [sp_hit5]; exact decide_eq_true h2)]
        simp only [sp_res, sp_g5l _ k (by omega)]
      · rw [if_neg (fun q => h2 q.2), List.find?_cons_of_neg (by rw [sp_hit5]; simpa using h2)]
        exact sp_mplace_l B x hk f (n + 1)
    · rw [List.filter_cons_of_neg h, if_neg (fun q => h q.1)]
      exact sp_mplace_l B x hk f (n + 1)
theorem sp_place_l (B : Nat → Nat → Bool) (x : Int) {k : Nat} (hk : k < 5) : ∀ f n, sp_place B x k f n = sp_res k (((List.range' n f).map (fun r => sp_l5 (sp_perm r))).find? (sp_hit B x))
  | 0, _ => rfl
  | f + 1, n => by
    rw [List.range'_succ]
    simp only [sp_place, List.map_cons]
    by_cases h2 : ((sp_dn B (sp_perm n) 4 : Nat) : Int) = x
    · rw [if_pos h2, List.find?_cons_of_pos (by rw [sp_hit5]; exact decide_eq_true h2)]
      simp only [sp_res, sp_g5l _ k (by omega)]
    · rw [if_neg h2, List.find?_cons_of_neg (by rw [sp_hit5]; simpa using h2)]
      exact sp_place_l B x hk f (n + 1)
theorem sp_mplace_eq (B : Nat → Nat → Bool) (x : Int) {k : Nat} (hk : k < 5) : sp_mplace B x k 3125 0 = sp_place B x k 120 0 := by rw [sp_mplace_l B x hk, sp_place_l B x hk, sp_turns]
theorem z_or0 : ∀ m : Nat, m < 64 → z_or ((m : Nat) : Int) 0 = ((m : Nat) : Int) := by decide +kernel
theorem z_or0b : ∀ a : Nat, a < 5 → z_or 0 (z_shl 1 ((a : Nat) : Int)) = ((0 ||| 2 ^ a : Nat) : Int) ∧ 0 ||| 2 ^ a < 64 := by decide +kernel

set_option maxRecDepth 8000 in
set_option maxHeartbeats 4000000 in
theorem ct_m_layTurn {sc : List Int} {I : Nat → Nat → Int} {L : Nat → Nat → Int64} {v : Nat} (hv : v < 3125) : x_CQ sc 2 xN_m_layTurn [xr 143, xi (↑v)] (xSH, I, L) (fun r m' => r = some (xi (x_b (sp_ok v = true))) ∧ ∃ I', m' = (xSH, I', L) ∧ (∀ k j, k ≠ 164 → I' k j = I k j) ∧ (sp_ok v = true → ∀ j, j < 5 → I' 164 j = ((sp_tn v j : Nat) : Int))) := by
  have e0 : sp_d0 v < 5 := by unfold sp_d0; omega
  have e1 : sp_d1 v < 5 := by unfold sp_d1; omega
  have e2 : sp_d2 v < 5 := by unfold sp_d2; omega
  have e3 : sp_d3 v < 5 := by unfold sp_d3; omega
  have e4 : sp_d4 v < 5 := by unfold sp_d4; omega
  have f1 : sp_u1 v < 64 := (z_or0b (sp_d0 v) e0).2
  have f2 : sp_u2 v < 64 := (z_os (sp_u1 v) f1 (sp_d1 v) (by omega)).2
  have f3 : sp_u3 v < 64 := (z_os (sp_u2 v) f2 (sp_d2 v) (by omega)).2
  have f4 : sp_u4 v < 64 := (z_os (sp_u3 v) f3 (sp_d3 v) (by omega)).2
  refine x_CQ.of (M := xM_m_layTurn) rfl (Nat.le_of_ble_eq_true rfl) ?_
  refine ex_st 7 (pc' := 9) (ls' := [(4, xi 4), (3, xi 0), (2, xi (↑v)), (0, xr 143), (1, xi (↑v))]) (st' := [xi 4]) rfl ?_
  refine ex_st 1 (pc' := 12) (ls' := [(4, xi 4), (3, xi 0), (2, xi (↑v)), (0, xr 143), (1, xi (↑v))]) (st' := []) rfl ?_
  refine ex_st 5 (pc' := 20) (ls' := [(4, xi 4), (3, xi 0), (2, xi (↑v)), (0, xr 143), (1, xi (↑v))]) (st' := [xi 5, xi (↑v), xi 4, xr 164]) rfl ?_
  refine ex_iremN (a := v) (b := 5) rfl (by omega) (by decide) (by decide) ?_
  rw [show (v % 5) = sp_d0 v from rfl]
  refine ex_iast (j := 4) rfl (by decide) (rfl : xSH[164]? = some _) (by decide) (by decide) (by decide) ?_
  refine ex_st 2 (pc' := 24) (ls' := [(4, xi 4), (3, xi 0), (2, xi (↑v)), (0, xr 143), (1, xi (↑v))]) (st' := [xi 5, xi (↑v)]) rfl ?_
  refine ex_idivN (a := v) (b := 5) rfl (by omega) (by decide) (by decide) ?_
  refine ex_st 6 (pc' := 34) (ls' := [(2, xi (↑(v / 5))), (4, xi 4), (3, xi 0), (0, xr 143), (1, xi (↑v))]) (st' := [xi 4, xr 164, xi 0, xr 143]) rfl ?_
  refine ex_iald (j := 4) rfl (by decide) (rfl : xSH[164]? = some _) (by decide) (by decide) (by decide) ?_
  rw [x_up_at _ 164 4 _]
  refine ex_call (ct_m_has (s := 0) (k := ((sp_d0 v))) (by first | decide | omega) (by omega)) (by decide) rfl ⟨rfl, rfl, rfl⟩ ⟨Nat.le_of_ble_eq_true rfl, rfl, rfl⟩ (Nat.le_of_ble_eq_true rfl) rfl ?_
  refine ex_beq rfl (fun h0 => ?_) (fun h0 => ?_)
  · refine ex_st 5 (pc' := 51) (ls' := [(2, xi (↑(v / 5))), (4, xi 4), (3, xi 0), (0, xr 143), (1, xi (↑v))]) (st' := [xi 4, xr 164, xi 1, xi 0]) rfl ?_
    refine ex_iald (j := 4) rfl (by decide) (rfl : xSH[164]? = some _) (by decide) (by decide) (by decide) ?_
    rw [x_up_at _ 164 4 _]
    refine ex_st 2 (pc' := 54) (ls' := [(2, xi (↑(v / 5))), (4, xi 4), (3, xi 0), (0, xr 143), (1, xi (↑v))]) (st' := [xi (z_or 0 (z_shl 1 (↑(sp_d0 v))))]) rfl ?_
    rw [(z_or0b (sp_d0 v) (by unfold sp_d0; omega)).1]
    refine ex_st 4 (pc' := 9) (ls' := [(4, xi 3), (3, xi (↑(sp_u1 v))), (2, xi (↑(v / 5))), (0, xr 143), (1, xi (↑v))]) (st' := [xi 3]) rfl ?_
    refine ex_st 1 (pc' := 12) (ls' := [(4, xi 3), (3, xi (↑(sp_u1 v))), (2, xi (↑(v / 5))), (0, xr 143), (1, xi (↑v))]) (st' := []) rfl ?_
    refine ex_st 5 (pc' := 20) (ls' := [(4, xi 3), (3, xi (↑(sp_u1 v))), (2, xi (↑(v / 5))), (0, xr 143), (1, xi (↑v))]) (st' := [xi 5, xi (↑(v / 5)), xi 3, xr 164]) rfl ?_
    refine ex_iremN (a := ((v / 5))) (b := 5) rfl (by omega) (by decide) (by decide) ?_
    rw [show (((v / 5)) % 5) = sp_d1 v from rfl]
    refine ex_iast (j := 3) rfl (by decide) (rfl : xSH[164]? = some _) (by decide) (by decide) (by decide) ?_
    refine ex_st 2 (pc' := 24) (ls' := [(4, xi 3), (3, xi (↑(sp_u1 v))), (2, xi (↑(v / 5))), (0, xr 143), (1, xi (↑v))]) (st' := [xi 5, xi (↑(v / 5))]) rfl ?_
    refine ex_idivN (a := ((v / 5))) (b := 5) rfl (by omega) (by decide) (by decide) ?_
    refine ex_st 6 (pc' := 34) (ls' := [(2, xi (↑(((v / 5)) / 5))), (4, xi 3), (3, xi (↑(sp_u1 v))), (0, xr 143), (1, xi (↑v))]) (st' := [xi 3, xr 164, xi (↑(sp_u1 v)), xr 143]) rfl ?_
    refine ex_iald (j := 3) rfl (by decide) (rfl : xSH[164]? = some _) (by decide) (by decide) (by decide) ?_
    rw [x_up_at _ 164 3 _]
    refine ex_call (ct_m_has (s := ((sp_u1 v))) (k := ((sp_d1 v))) (by first | decide | omega) (by omega)) (by decide) rfl ⟨rfl, rfl, rfl⟩ ⟨Nat.le_of_ble_eq_true rfl, rfl, rfl⟩ (Nat.le_of_ble_eq_true rfl) rfl ?_
    refine ex_beq rfl (fun h1 => ?_) (fun h1 => ?_)
    · refine ex_st 5 (pc' := 51) (ls' := [(2, xi (↑(((v / 5)) / 5))), (4, xi 3), (3, xi (↑(sp_u1 v))), (0, xr 143), (1, xi (↑v))]) (st' := [xi 3, xr 164, xi 1, xi (↑(sp_u1 v))]) rfl ?_
      refine ex_iald (j := 3) rfl (by decide) (rfl : xSH[164]? = some _) (by decide) (by decide) (by decide) ?_
      rw [x_up_at _ 164 3 _]
      refine ex_st 2 (pc' := 54) (ls' := [(2, xi (↑(((v / 5)) / 5))), (4, xi 3), (3, xi (↑(sp_u1 v))), (0, xr 143), (1, xi (↑v))]) (st' := [xi (z_or (↑(sp_u1 v)) (z_shl 1 (↑(sp_d1 v))))]) rfl ?_
      rw [(z_os (sp_u1 v) (by omega) (sp_d1 v) (by omega)).1]
      refine ex_st 4 (pc' := 9) (ls' := [(4, xi 2), (3, xi (↑(sp_u2 v))), (2, xi (↑(((v / 5)) / 5))), (0, xr 143), (1, xi (↑v))]) (st' := [xi 2]) rfl ?_
      refine ex_st 1 (pc' := 12) (ls' := [(4, xi 2), (3, xi (↑(sp_u2 v))), (2, xi (↑(((v / 5)) / 5))), (0, xr 143), (1, xi (↑v))]) (st' := []) rfl ?_
      refine ex_st 5 (pc' := 20) (ls' := [(4, xi 2), (3, xi (↑(sp_u2 v))), (2, xi (↑(((v / 5)) / 5))), (0, xr 143), (1, xi (↑v))]) (st' := [xi 5, xi (↑(((v / 5)) / 5)), xi 2, xr 164]) rfl ?_
      refine ex_iremN (a := ((((v / 5)) / 5))) (b := 5) rfl (by omega) (by decide) (by decide) ?_
      rw [show (((((v / 5)) / 5)) % 5) = sp_d2 v from rfl]
      refine ex_iast (j := 2) rfl (by decide) (rfl : xSH[164]? = some _) (by decide) (by decide) (by decide) ?_
      refine ex_st 2 (pc' := 24) (ls' := [(4, xi 2), (3, xi (↑(sp_u2 v))), (2, xi (↑(((v / 5)) / 5))), (0, xr 143), (1, xi (↑v))]) (st' := [xi 5, xi (↑(((v / 5)) / 5))]) rfl ?_
      refine ex_idivN (a := ((((v / 5)) / 5))) (b := 5) rfl (by omega) (by decide) (by decide) ?_
      refine ex_st 6 (pc' := 34) (ls' := [(2, xi (↑(((((v / 5)) / 5)) / 5))), (4, xi 2), (3, xi (↑(sp_u2 v))), (0, xr 143), (1, xi (↑v))]) (st' := [xi 2, xr 164, xi (↑(sp_u2 v)), xr 143]) rfl ?_
      refine ex_iald (j := 2) rfl (by decide) (rfl : xSH[164]? = some _) (by decide) (by decide) (by decide) ?_
      rw [x_up_at _ 164 2 _]
      refine ex_call (ct_m_has (s := ((sp_u2 v))) (k := ((sp_d2 v))) (by first | decide | omega) (by omega)) (by decide) rfl ⟨rfl, rfl, rfl⟩ ⟨Nat.le_of_ble_eq_true rfl, rfl, rfl⟩ (Nat.le_of_ble_eq_true rfl) rfl ?_
      refine ex_beq rfl (fun h2 => ?_) (fun h2 => ?_)
      · refine ex_st 5 (pc' := 51) (ls' := [(2, xi (↑(((((v / 5)) / 5)) / 5))), (4, xi 2), (3, xi (↑(sp_u2 v))), (0, xr 143), (1, xi (↑v))]) (st' := [xi 2, xr 164, xi 1, xi (↑(sp_u2 v))]) rfl ?_
        refine ex_iald (j := 2) rfl (by decide) (rfl : xSH[164]? = some _) (by decide) (by decide) (by decide) ?_
        rw [x_up_at _ 164 2 _]
        refine ex_st 2 (pc' := 54) (ls' := [(2, xi (↑(((((v / 5)) / 5)) / 5))), (4, xi 2), (3, xi (↑(sp_u2 v))), (0, xr 143), (1, xi (↑v))]) (st' := [xi (z_or (↑(sp_u2 v)) (z_shl 1 (↑(sp_d2 v))))]) rfl ?_
        rw [(z_os (sp_u2 v) (by omega) (sp_d2 v) (by omega)).1]
        refine ex_st 4 (pc' := 9) (ls' := [(4, xi 1), (3, xi (↑(sp_u3 v))), (2, xi (↑(((((v / 5)) / 5)) / 5))), (0, xr 143), (1, xi (↑v))]) (st' := [xi 1]) rfl ?_
        refine ex_st 1 (pc' := 12) (ls' := [(4, xi 1), (3, xi (↑(sp_u3 v))), (2, xi (↑(((((v / 5)) / 5)) / 5))), (0, xr 143), (1, xi (↑v))]) (st' := []) rfl ?_
        refine ex_st 5 (pc' := 20) (ls' := [(4, xi 1), (3, xi (↑(sp_u3 v))), (2, xi (↑(((((v / 5)) / 5)) / 5))), (0, xr 143), (1, xi (↑v))]) (st' := [xi 5, xi (↑(((((v / 5)) / 5)) / 5)), xi 1, xr 164]) rfl ?_
        refine ex_iremN (a := ((((((v / 5)) / 5)) / 5))) (b := 5) rfl (by omega) (by decide) (by decide) ?_
        rw [show (((((((v / 5)) / 5)) / 5)) % 5) = sp_d3 v from rfl]
        refine ex_iast (j := 1) rfl (by decide) (rfl : xSH[164]? = some _) (by decide) (by decide) (by decide) ?_
        refine ex_st 2 (pc' := 24) (ls' := [(4, xi 1), (3, xi (↑(sp_u3 v))), (2, xi (↑(((((v / 5)) / 5)) / 5))), (0, xr 143), (1, xi (↑v))]) (st' := [xi 5, xi (↑(((((v / 5)) / 5)) / 5))]) rfl ?_
        refine ex_idivN (a := ((((((v / 5)) / 5)) / 5))) (b := 5) rfl (by omega) (by decide) (by decide) ?_
        refine ex_st 6 (pc' := 34) (ls' := [(2, xi (↑(((((((v / 5)) / 5)) / 5)) / 5))), (4, xi 1), (3, xi (↑(sp_u3 v))), (0, xr 143), (1, xi (↑v))]) (st' := [xi 1, xr 164, xi (↑(sp_u3 v)), xr 143]) rfl ?_
        refine ex_iald (j := 1) rfl (by decide) (rfl : xSH[164]? = some _) (by decide) (by decide) (by decide) ?_
        rw [x_up_at _ 164 1 _]
        refine ex_call (ct_m_has (s := ((sp_u3 v))) (k := ((sp_d3 v))) (by first | decide | omega) (by omega)) (by decide) rfl ⟨rfl, rfl, rfl⟩ ⟨Nat.le_of_ble_eq_true rfl, rfl, rfl⟩ (Nat.le_of_ble_eq_true rfl) rfl ?_
        refine ex_beq rfl (fun h3 => ?_) (fun h3 => ?_)
        · refine ex_st 5 (pc' := 51) (ls' := [(2, xi (↑(((((((v / 5)) / 5)) / 5)) / 5))), (4, xi 1), (3, xi (↑(sp_u3 v))), (0, xr 143), (1, xi (↑v))]) (st' := [xi 1, xr 164, xi 1, xi (↑(sp_u3 v))]) rfl ?_
          refine ex_iald (j := 1) rfl (by decide) (rfl : xSH[164]? = some _) (by decide) (by decide) (by decide) ?_
          rw [x_up_at _ 164 1 _]
          refine ex_st 2 (pc' := 54) (ls' := [(2, xi (↑(((((((v / 5)) / 5)) / 5)) / 5))), (4, xi 1), (3, xi (↑(sp_u3 v))), (0, xr 143), (1, xi (↑v))]) (st' := [xi (z_or (↑(sp_u3 v)) (z_shl 1 (↑(sp_d3 v))))]) rfl ?_
          rw [(z_os (sp_u3 v) (by omega) (sp_d3 v) (by omega)).1]
          refine ex_st 4 (pc' := 9) (ls' := [(4, xi 0), (3, xi (↑(sp_u4 v))), (2, xi (↑(((((((v / 5)) / 5)) / 5)) / 5))), (0, xr 143), (1, xi (↑v))]) (st' := [xi 0]) rfl ?_
          refine ex_st 1 (pc' := 12) (ls' := [(4, xi 0), (3, xi (↑(sp_u4 v))), (2, xi (↑(((((((v / 5)) / 5)) / 5)) / 5))), (0, xr 143), (1, xi (↑v))]) (st' := []) rfl ?_
          refine ex_st 5 (pc' := 20) (ls' := [(4, xi 0), (3, xi (↑(sp_u4 v))), (2, xi (↑(((((((v / 5)) / 5)) / 5)) / 5))), (0, xr 143), (1, xi (↑v))]) (st' := [xi 5, xi (↑(((((((v / 5)) / 5)) / 5)) / 5)), xi 0, xr 164]) rfl ?_
          refine ex_iremN (a := ((((((((v / 5)) / 5)) / 5)) / 5))) (b := 5) rfl (by omega) (by decide) (by decide) ?_
          rw [show (((((((((v / 5)) / 5)) / 5)) / 5)) % 5) = sp_d4 v from rfl]
          refine ex_iast (j := 0) rfl (by decide) (rfl : xSH[164]? = some _) (by decide) (by decide) (by decide) ?_
          refine ex_st 2 (pc' := 24) (ls' := [(4, xi 0), (3, xi (↑(sp_u4 v))), (2, xi (↑(((((((v / 5)) / 5)) / 5)) / 5))), (0, xr 143), (1, xi (↑v))]) (st' := [xi 5, xi (↑(((((((v / 5)) / 5)) / 5)) / 5))]) rfl ?_
          refine ex_idivN (a := ((((((((v / 5)) / 5)) / 5)) / 5))) (b := 5) rfl (by omega) (by decide) (by decide) ?_
          refine ex_st 6 (pc' := 34) (ls' := [(2, xi (↑(((((((((v / 5)) / 5)) / 5)) / 5)) / 5))), (4, xi 0), (3, xi (↑(sp_u4 v))), (0, xr 143), (1, xi (↑v))]) (st' := [xi 0, xr 164, xi (↑(sp_u4 v)), xr 143]) rfl ?_
          refine ex_iald (j := 0) rfl (by decide) (rfl : xSH[164]? = some _) (by decide) (by decide) (by decide) ?_
          rw [x_up_at _ 164 0 _]
          refine ex_call (ct_m_has (s := ((sp_u4 v))) (k := ((sp_d4 v))) (by first | decide | omega) (by omega)) (by decide) rfl ⟨rfl, rfl, rfl⟩ ⟨Nat.le_of_ble_eq_true rfl, rfl, rfl⟩ (Nat.le_of_ble_eq_true rfl) rfl ?_
          refine ex_beq rfl (fun h4 => ?_) (fun h4 => ?_)
          · refine ex_st 5 (pc' := 51) (ls' := [(2, xi (↑(((((((((v / 5)) / 5)) / 5)) / 5)) / 5))), (4, xi 0), (3, xi (↑(sp_u4 v))), (0, xr 143), (1, xi (↑v))]) (st' := [xi 0, xr 164, xi 1, xi (↑(sp_u4 v))]) rfl ?_
            refine ex_iald (j := 0) rfl (by decide) (rfl : xSH[164]? = some _) (by decide) (by decide) (by decide) ?_
            rw [x_up_at _ 164 0 _]
            refine ex_st 2 (pc' := 54) (ls' := [(2, xi (↑(((((((((v / 5)) / 5)) / 5)) / 5)) / 5))), (4, xi 0), (3, xi (↑(sp_u4 v))), (0, xr 143), (1, xi (↑v))]) (st' := [xi (z_or (↑(sp_u4 v)) (z_shl 1 (↑(sp_d4 v))))]) rfl ?_
            rw [(z_os (sp_u4 v) (by omega) (sp_d4 v) (by omega)).1]
            refine ex_st 4 (pc' := 9) (ls' := [(4, xi (-1)), (3, xi (↑(sp_u4 v ||| 2 ^ sp_d4 v))), (2, xi (↑(((((((((v / 5)) / 5)) / 5)) / 5)) / 5))), (0, xr 143), (1, xi (↑v))]) (st' := [xi (-1)]) rfl ?_
            refine ex_st 1 (pc' := 61) (ls' := [(4, xi (-1)), (3, xi (↑(sp_u4 v ||| 2 ^ sp_d4 v))), (2, xi (↑(((((((((v / 5)) / 5)) / 5)) / 5)) / 5))), (0, xr 143), (1, xi (↑v))]) (st' := []) rfl ?_
            refine ex_st 1 (pc' := 62) (ls' := [(4, xi (-1)), (3, xi (↑(sp_u4 v ||| 2 ^ sp_d4 v))), (2, xi (↑(((((((((v / 5)) / 5)) / 5)) / 5)) / 5))), (0, xr 143), (1, xi (↑v))]) (st' := [xi 1]) rfl ?_
            refine ex_retz rfl (Or.inr rfl) rfl ?_
            refine ⟨by unfold x_b; rw [if_pos (by unfold sp_ok; simp_all)], _, rfl, fun k j hk => by (repeat rw [x_up_far (by omega)]), fun _ j hj => ?_⟩
            rcases (show j = 0 ∨ j = 1 ∨ j = 2 ∨ j = 3 ∨ j = 4 by omega) with rfl | rfl | rfl | rfl | rfl <;> ((repeat (first | rw [x_up_far (by decide)] | rw [x_up_at2 (by decide) (by decide)])); try rfl)
          · refine ex_st 1 (pc' := 42) (ls' := [(2, xi (↑(((((((((v / 5)) / 5)) / 5)) / 5)) / 5))), (4, xi 0), (3, xi (↑(sp_u4 v))), (0, xr 143), (1, xi (↑v))]) (st' := [xi 0]) rfl ?_
            refine ex_retz rfl (Or.inl rfl) rfl ?_
            have hno : sp_ok v = false := by unfold sp_ok; simp_all
            refine ⟨by unfold x_b; rw [hno]; rfl, _, rfl, fun k j hk => by (repeat rw [x_up_far (by omega)]), fun h => by rw [hno] at h; cases h⟩
        · refine ex_st 1 (pc' := 42) (ls' := [(2, xi (↑(((((((v / 5)) / 5)) / 5)) / 5))), (4, xi 1), (3, xi (↑(sp_u3 v))), (0, xr 143), (1, xi (↑v))]) (st' := [xi 0]) rfl ?_
          refine ex_retz rfl (Or.inl rfl) rfl ?_
          have hno : sp_ok v = false := by unfold sp_ok; simp_all
          refine ⟨by unfold x_b; rw [hno]; rfl, _, rfl, fun k j hk => by (repeat rw [x_up_far (by omega)]), fun h => by rw [hno] at h; cases h⟩
      · refine ex_st 1 (pc' := 42) (ls' := [(2, xi (↑(((((v / 5)) / 5)) / 5))), (4, xi 2), (3, xi (↑(sp_u2 v))), (0, xr 143), (1, xi (↑v))]) (st' := [xi 0]) rfl ?_
        refine ex_retz rfl (Or.inl rfl) rfl ?_
        have hno : sp_ok v = false := by unfold sp_ok; simp_all
        refine ⟨by unfold x_b; rw [hno]; rfl, _, rfl, fun k j hk => by (repeat rw [x_up_far (by omega)]), fun h => by rw [hno] at h; cases h⟩
    · refine ex_st 1 (pc' := 42) (ls' := [(2, xi (↑(((v / 5)) / 5))), (4, xi 3), (3, xi (↑(sp_u1 v))), (0, xr 143), (1, xi (↑v))]) (st' := [xi 0]) rfl ?_
      refine ex_retz rfl (Or.inl rfl) rfl ?_
      have hno : sp_ok v = false := by unfold sp_ok; simp_all
      refine ⟨by unfold x_b; rw [hno]; rfl, _, rfl, fun k j hk => by (repeat rw [x_up_far (by omega)]), fun h => by rw [hno] at h; cases h⟩
  · exfalso; simp_all
theorem lp_mdt {sc : List Int} {I : Nat → Nat → Int} {L : Nat → Nat → Int64} {B : Nat → Nat → Bool} (hB : BMm I B) {g : Nat → Nat} (hg : ∀ k, k < 5 → I 164 k = (g k : Int) ∧ g k < 5) (k : Nat) (hk : k < 5) : x_Ex sc 0 xM_m_doneByTurn 9 [(2, xi (↑(k + 1))), (1, xi (↑(sp_dn B g k))), (0, xr 143)] [] (xSH, I, L) (fun r m' => r = some (xi ((sp_dn B g 4 : Nat) : Int)) ∧ m' = (xSH, I, L)) := by
  refine ex_st 2 (pc' := 11) (ls' := [(2, xi (↑(k + 1))), (1, xi (↑(sp_dn B g k))), (0, xr 143)]) (st' := [xi 5, xi (↑(k + 1))]) rfl ?_
  refine ex_ic rfl (by first | omega | (constructor <;> omega) | assumption | exact x_bR _) (by decide) (fun (h0 : ((5 : Int)) ≤ (↑(k + 1) : Int)) => ?_) (fun (h0 : ¬ ((5 : Int)) ≤ (↑(k + 1) : Int)) => ?_)
  · refine ex_st 1 (pc' := 50) (ls' := [(2, xi (↑(k + 1))), (1, xi (↑(sp_dn B g k))), (0, xr 143)]) (st' := [xi (↑(sp_dn B g k))]) rfl ?_
    refine ex_reti rfl rfl ?_
    obtain rfl : k = 4 := by omega
    exact ⟨rfl, rfl⟩
  · have hd1 := (hg (k + 1) (by omega)).2
    have hd2 := sp_dn_lt (B := B) (fun i hi => (hg i hi).2) k hk
    refine ex_st 6 (pc' := 24) (ls' := [(2, xi (↑(k + 1))), (1, xi (↑(sp_dn B g k))), (0, xr 143)]) (st' := [xi (↑(k + 1)), xr 164, xi 5, xr 162]) rfl ?_
    refine ex_iald (j := ((k + 1))) rfl (by decide) (rfl : xSH[164]? = some _) (by omega) (by omega) (by decide) ?_
    rw [(hg (k + 1) (by omega)).1]
    refine ex_st 3 (pc' := 28) (ls' := [(2, xi (↑(k + 1))), (1, xi (↑(sp_dn B g k))), (0, xr 143)]) (st' := [xi ((5 * (↑(g (k + 1)))) + (↑(sp_dn B g k))), xr 162]) rfl ?_
    refine ex_bald (j := ((5 * ((g (k + 1)))) + ((sp_dn B g k)))) rfl (by decide) (rfl : xSH[162]? = some _) (by omega) (by omega) (by decide) ?_
    rw [(hB (g (k + 1)) (sp_dn B g k) (by omega) (by omega))]
    refine ex_beq rfl (fun h1 => ?_) (fun h1 => ?_)
    · refine ex_st 4 (pc' := 9) (ls' := [(2, xi ((↑(k + 1)) + 1)), (1, xi (↑(sp_dn B g k))), (0, xr 143)]) (st' := []) rfl ?_
      have h9 := lp_mdt (sc := sc) (L := L) hB hg (k + 1) (by omega)
      rw [show sp_dn B g (k + 1) = sp_dn B g k from by show (if _ then _ else _) = _; rw [if_neg (by assumption)]] at h9
      exact h9
    · refine ex_st 3 (pc' := 37) (ls' := [(2, xi (↑(k + 1))), (1, xi (↑(sp_dn B g k))), (0, xr 143)]) (st' := [xi (↑(k + 1)), xr 164]) rfl ?_
      refine ex_iald (j := ((k + 1))) rfl (by decide) (rfl : xSH[164]? = some _) (by omega) (by omega) (by decide) ?_
      rw [(hg (k + 1) (by omega)).1]
      refine ex_st 4 (pc' := 9) (ls' := [(2, xi ((↑(k + 1)) + 1)), (1, xi (↑(g (k + 1)))), (0, xr 143)]) (st' := []) rfl ?_
      have h9 := lp_mdt (sc := sc) (L := L) hB hg (k + 1) (by omega)
      rw [show sp_dn B g (k + 1) = g (k + 1) from by show (if _ then _ else _) = _; rw [if_pos (by assumption)]] at h9
      exact h9
termination_by 5 - k
decreasing_by all_goals omega
theorem ct_m_doneByTurn {sc : List Int} {I : Nat → Nat → Int} {L : Nat → Nat → Int64} {B : Nat → Nat → Bool} (hB : BMm I B) {g : Nat → Nat} (hg : ∀ k, k < 5 → I 164 k = (g k : Int) ∧ g k < 5) : x_CE sc 1 xN_m_doneByTurn [xr 143] (xSH, I, L) (some (xi ((sp_dn B g 4 : Nat) : Int))) (xSH, I, L) := by
  refine x_CE.of (M := xM_m_doneByTurn) rfl (Nat.le_of_ble_eq_true rfl) ?_
  refine ex_st 3 (pc' := 5) (ls' := [(0, xr 143)]) (st' := [xi 0, xr 164]) rfl ?_
  refine ex_iald (j := 0) rfl (by decide) (rfl : xSH[164]? = some _) rfl (by decide) (by decide) ?_
  rw [(hg 0 (by omega)).1]
  refine ex_st 3 (pc' := 9) (ls' := [(2, xi 1), (1, xi (↑(g 0))), (0, xr 143)]) (st' := []) rfl ?_
  exact lp_mdt hB hg 0 (by omega)
theorem sp_mrows_le (B : Nat → Nat → Bool) (x : Int) : ∀ n, sp_mrows B x n ≤ n
  | 0 => Nat.le_refl _
  | n + 1 => by
    have := sp_mrows_le B x n
    simp only [sp_mrows]
    split <;> omega
theorem lp_mrw {sc : List Int} {I : Nat → Nat → Int} {L : Nat → Nat → Int64} {B : Nat → Nat → Bool} (hB : BMm I B) {x : Int} (hx : x_R x) (i : Nat) (hi : i ≤ 3125) : x_Ex sc 2 xM_m_rowsFor 4 [(3, xi (↑i)), (2, xi (↑(sp_mrows B x i))), (0, xr 143), (1, xi x)] [] (xSH, I, L) (fun r m' => r = some (xi ((sp_mrows B x 3125 : Nat) : Int)) ∧ ∃ I', m' = (xSH, I', L) ∧ ∀ k j, k ≠ 164 → I' k j = I k j) := by
  have hmi : sp_mrows B x i ≤ i := sp_mrows_le B x i
  have hdl0 := sp_dn_lt (B := B) (g := sp_tn i) (N := 5) (fun k hk => sp_tn_lt i k) 4 (by decide)
  refine ex_st 2 (pc' := 8) (ls' := [(3, xi (↑i)), (2, xi (↑(sp_mrows B x i))), (0, xr 143), (1, xi x)]) (st' := [xi 3125, xi (↑i)]) rfl ?_
  refine ex_ic rfl (by first | exact hx | omega | (constructor <;> omega) | assumption | exact x_bR _) (by decide) (fun (h0 : ((3125 : Int)) ≤ (↑i : Int)) => ?_) (fun (h0 : ¬ ((3125 : Int)) ≤ (↑i : Int)) => ?_)
  · refine ex_st 1 (pc' := 42) (ls' := [(3, xi (↑i)), (2, xi (↑(sp_mrows B x i))), (0, xr 143), (1, xi x)]) (st' := [xi (↑(sp_mrows B x i))]) rfl ?_
    refine ex_reti rfl rfl ?_
    obtain rfl : i = 3125 := by omega
    exact ⟨rfl, I, rfl, fun _ _ _ => rfl⟩
  · refine ex_st 3 (pc' := 14) (ls' := [(3, xi (↑i)), (2, xi (↑(sp_mrows B x i))), (0, xr 143), (1, xi x)]) (st' := [xi (↑i), xr 143, xi (↑(sp_mrows B x i))]) rfl ?_
    refine ex_callQ (ct_m_layTurn (L := L) (v := i) (by omega)) (by decide) rfl ⟨rfl, rfl, rfl⟩ ⟨Nat.le_of_ble_eq_true rfl, rfl, rfl⟩ (Nat.le_of_ble_eq_true rfl) rfl (fun ra m2 hQ => ?_)
    obtain ⟨rfl, I1, rfl, t1, t2⟩ := hQ
    refine ex_beq rfl (fun h1 => ?_) (fun h1 => ?_)
    · refine ex_st 5 (pc' := 4) (ls' := [(3, xi ((↑i) + 1)), (2, xi ((↑(sp_mrows B x i)) + 0)), (0, xr 143), (1, xi x)]) (st' := []) rfl ?_
      have hdl := sp_dn_lt (B := B) (g := sp_tn i) (N := 5) (fun k hk => sp_tn_lt i k) 4 (by decide)
      have hm : sp_mrows B x (i + 1) = sp_mrows B x i + 0 := by show _ + _ = _; rw [if_neg (by intro q; first | exact absurd q.1 (by assumption) | omega)]
      have h9 := lp_mrw (sc := sc) (L := L) (hB.fr (fun j => t1 _ _ (by decide))) hx (i + 1) (by omega)
      rw [hm] at h9
      refine x_Ex.mono h9 (fun r m' h => ?_)
      obtain ⟨h1, I2, h2, h3⟩ := h
      exact ⟨h1, I2, h2, fun k j hk => by rw [h3 k j hk]; exact t1 k j hk⟩
    · refine ex_st 1 (pc' := 21) (ls' := [(3, xi (↑i)), (2, xi (↑(sp_mrows B x i))), (0, xr 143), (1, xi x)]) (st' := [xr 143, xi (↑(sp_mrows B x i))]) rfl ?_
      refine ex_call (ct_m_doneByTurn (hB.fr (fun j => t1 _ _ (by decide))) (g := sp_tn i) (fun k hk => ⟨t2 (by assumption) k hk, sp_tn_lt i k⟩)) (by decide) rfl ⟨rfl, rfl, rfl⟩ ⟨Nat.le_of_ble_eq_true rfl, rfl, rfl⟩ (Nat.le_of_ble_eq_true rfl) rfl ?_
      refine ex_st 1 (pc' := 25) (ls' := [(3, xi (↑i)), (2, xi (↑(sp_mrows B x i))), (0, xr 143), (1, xi x)]) (st' := [xi x, xi (↑(sp_dn B (sp_tn i) 4)), xi (↑(sp_mrows B x i))]) rfl ?_
      refine ex_ic rfl (by first | exact hx | omega | (constructor <;> omega) | assumption | exact x_bR _) (by first | exact hx | omega | (constructor <;> omega) | assumption | exact x_bR _) (fun (h2 : ¬ (↑(sp_dn B (sp_tn i) 4) : Int) = x) => ?_) (fun (h2 : ¬ ¬ (↑(sp_dn B (sp_tn i) 4) : Int) = x) => ?_)
      · refine ex_st 5 (pc' := 4) (ls' := [(3, xi ((↑i) + 1)), (2, xi ((↑(sp_mrows B x i)) + 0)), (0, xr 143), (1, xi x)]) (st' := []) rfl ?_
        have hdl := sp_dn_lt (B := B) (g := sp_tn i) (N := 5) (fun k hk => sp_tn_lt i k) 4 (by decide)
        have hm : sp_mrows B x (i + 1) = sp_mrows B x i + 0 := by show _ + _ = _; rw [if_neg (by intro q; first | exact absurd q.1 (by assumption) | omega)]
        have h9 := lp_mrw (sc := sc) (L := L) (hB.fr (fun j => t1 _ _ (by decide))) hx (i + 1) (by omega)
        rw [hm] at h9
        refine x_Ex.mono h9 (fun r m' h => ?_)
        obtain ⟨h1, I2, h2, h3⟩ := h
        exact ⟨h1, I2, h2, fun k j hk => by rw [h3 k j hk]; exact t1 k j hk⟩
      · refine ex_st 6 (pc' := 4) (ls' := [(3, xi ((↑i) + 1)), (2, xi ((↑(sp_mrows B x i)) + 1)), (0, xr 143), (1, xi x)]) (st' := []) rfl ?_
        have hdl := sp_dn_lt (B := B) (g := sp_tn i) (N := 5) (fun k hk => sp_tn_lt i k) 4 (by decide)
        have hm : sp_mrows B x (i + 1) = sp_mrows B x i + 1 := by show _ + _ = _; rw [if_pos ⟨by assumption, by omega⟩]
        have h9 := lp_mrw (sc := sc) (L := L) (hB.fr (fun j => t1 _ _ (by decide))) hx (i + 1) (by omega)
        rw [hm] at h9
        refine x_Ex.mono h9 (fun r m' h => ?_)
        obtain ⟨h1, I2, h2, h3⟩ := h
        exact ⟨h1, I2, h2, fun k j hk => by rw [h3 k j hk]; exact t1 k j hk⟩
termination_by 3125 - i
decreasing_by all_goals omega
theorem ct_m_rowsFor {sc : List Int} {I : Nat → Nat → Int} {L : Nat → Nat → Int64} {B : Nat → Nat → Bool} (hB : BMm I B) {x : Int} (hx : x_R x) : x_CQ sc 3 xN_m_rowsFor [xr 143, xi x] (xSH, I, L) (fun r m' => r = some (xi ((sp_rows B x 120 : Nat) : Int)) ∧ ∃ I', m' = (xSH, I', L) ∧ ∀ k j, k ≠ 164 → I' k j = I k j) := by
  refine x_CQ.of (M := xM_m_rowsFor) rfl (Nat.le_of_ble_eq_true rfl) ?_
  refine ex_st 4 (pc' := 4) (ls' := [(3, xi 0), (2, xi 0), (0, xr 143), (1, xi x)]) (st' := []) rfl ?_
  rw [← sp_mrows_eq]
  exact lp_mrw hB hx 0 (by omega)
theorem lp_mls {sc : List Int} {I : Nat → Nat → Int} {L : Nat → Nat → Int64} {B : Nat → Nat → Bool} (hB : BMm I B) (i : Nat) (hi : i ≤ 5) : x_Ex sc 6 xM_m_lastSet 8 [(2, xi (↑i)), (1, xi (sp_mask (sp_never B) i)), (0, xr 143)] [] (xSH, I, L) (fun r m' => r = some (xi (sp_mask (sp_never B) 5)) ∧ ∃ I', m' = (xSH, I', L) ∧ ∀ k j, k ≠ 164 → I' k j = I k j) := by
  refine ex_st 2 (pc' := 10) (ls' := [(2, xi (↑i)), (1, xi (sp_mask (sp_never B) i)), (0, xr 143)]) (st' := [xi 5, xi (↑i)]) rfl ?_
  refine ex_ic rfl (by first | omega | (constructor <;> omega) | assumption | exact x_bR _) (by decide) (fun (h0 : ((5 : Int)) ≤ (↑i : Int)) => ?_) (fun (h0 : ¬ ((5 : Int)) ≤ (↑i : Int)) => ?_)
  · refine ex_st 1 (pc' := 38) (ls' := [(2, xi (↑i)), (1, xi (sp_mask (sp_never B) i)), (0, xr 143)]) (st' := [xi (sp_mask (sp_never B) i)]) rfl ?_
    refine ex_reti rfl rfl ?_
    obtain rfl : i = 5 := by omega
    exact ⟨rfl, I, rfl, fun _ _ _ => rfl⟩
  · refine ex_st 3 (pc' := 16) (ls' := [(2, xi (↑i)), (1, xi (sp_mask (sp_never B) i)), (0, xr 143)]) (st' := [xi (↑i), xr 143, xi (sp_mask (sp_never B) i)]) rfl ?_
    refine ex_callQ (ct_m_rowsFor (L := L) hB (x := ((i : Nat) : Int)) (by constructor <;> omega)) (by decide) rfl ⟨rfl, rfl, rfl⟩ ⟨Nat.le_of_ble_eq_true rfl, rfl, rfl⟩ (Nat.le_of_ble_eq_true rfl) rfl (fun ra m2 hQ => ?_)
    obtain ⟨rfl, I1, rfl, t1⟩ := hQ
    have hrl := sp_rows_le B (i : Int) 120
    refine ex_if rfl (by first | omega | (constructor <;> omega) | assumption | exact x_bR _) (fun (h1 : ¬ (↑(sp_rows B (i : Int) 120) : Int) = 0) => ?_) (fun (h1 : ¬ ¬ (↑(sp_rows B (i : Int) 120) : Int) = 0) => ?_)
    · refine ex_st 5 (pc' := 8) (ls' := [(2, xi ((↑i) + 1)), (1, xi (z_or (sp_mask (sp_never B) i) 0)), (0, xr 143)]) (st' := []) rfl ?_
      have hm : sp_mask (sp_never B) (i + 1) = sp_mask (sp_never B) i + 0 := by show _ + _ = _; rw [if_neg (by unfold sp_never; rw [decide_eq_true_eq]; omega)]
      have hb := sp_mask_bd (sp_never B) i
      have hb2 : (2 : Int) ^ i ≤ 32 := by rcases (show i = 0 ∨ i = 1 ∨ i = 2 ∨ i = 3 ∨ i = 4 by omega) with rfl | rfl | rfl | rfl | rfl <;> decide
      rw [show z_or (sp_mask (sp_never B) i) 0 = sp_mask (sp_never B) (i + 1) from by obtain ⟨mm, hmm⟩ := Int.eq_ofNat_of_zero_le hb.1; rw [hm, hmm, z_or0 mm (by omega), Int.add_zero]]
      refine x_Ex.mono (lp_mls (sc := sc) (L := L) (hB.fr (fun j => t1 _ _ (by decide))) (i + 1) (by omega)) (fun r m' h => ?_)
      obtain ⟨h1, I2, h2, h3⟩ := h
      exact ⟨h1, I2, h2, fun k j hk => by rw [h3 k j hk]; exact t1 k j hk⟩
    · refine ex_st 8 (pc' := 8) (ls' := [(2, xi ((↑i) + 1)), (1, xi (z_or (sp_mask (sp_never B) i) (z_shl 1 (↑i)))), (0, xr 143)]) (st' := []) rfl ?_
      have hm : sp_mask (sp_never B) (i + 1) = sp_mask (sp_never B) i + 2 ^ i := by show _ + _ = _; rw [if_pos (by unfold sp_never; rw [decide_eq_true_eq]; omega)]
      rw [sp_mask_or _ (by omega), ← hm]
      refine x_Ex.mono (lp_mls (sc := sc) (L := L) (hB.fr (fun j => t1 _ _ (by decide))) (i + 1) (by omega)) (fun r m' h => ?_)
      obtain ⟨h1, I2, h2, h3⟩ := h
      exact ⟨h1, I2, h2, fun k j hk => by rw [h3 k j hk]; exact t1 k j hk⟩
termination_by 5 - i
decreasing_by all_goals omega
