/-! Ballot: rings -/
def sp_r3 (B : Nat → Nat → Bool) (a b : Nat) : Nat → Nat
  | 0 => 0
  | k + 1 => (if sp_ring B a b (4 - k) = true then 1 else 0) + sp_r3 B a b k
def sp_r2 (B : Nat → Nat → Bool) (a : Nat) : Nat → Nat
  | 0 => 0
  | k + 1 => sp_r3 B a (4 - k) k + sp_r2 B a k
def sp_r1 (B : Nat → Nat → Bool) : Nat → Nat
  | 0 => 0
  | k + 1 => sp_r2 B (4 - k) k + sp_r1 B k
theorem sp_r3_s {B : Nat → Nat → Bool} {a b c : Nat} (h : c < 5) : sp_r3 B a b (5 - c) = (if sp_ring B a b c = true then 1 else 0) + sp_r3 B a b (5 - (c + 1)) := by
  rw [show 5 - c = (4 - c) + 1 by omega, show 5 - (c + 1) = 4 - c by omega]
  show (if sp_ring B a b (4 - (4 - c)) = true then 1 else 0) + _ = _
  rw [show 4 - (4 - c) = c by omega]
theorem sp_r2_s {B : Nat → Nat → Bool} {a b : Nat} (h : b < 5) : sp_r2 B a (5 - b) = sp_r3 B a b (5 - (b + 1)) + sp_r2 B a (5 - (b + 1)) := by
  rw [show 5 - b = (4 - b) + 1 by omega, show 5 - (b + 1) = 4 - b by omega]
  show sp_r3 B a (4 - (4 - b)) _ + _ = _
  rw [show 4 - (4 - b) = b by omega]
theorem sp_r1_s {B : Nat → Nat → Bool} {a : Nat} (h : a < 5) : sp_r1 B (5 - a) = sp_r2 B a (5 - (a + 1)) + sp_r1 B (5 - (a + 1)) := by
  rw [show 5 - a = (4 - a) + 1 by omega, show 5 - (a + 1) = 4 - a by omega]
  show sp_r2 B (4 - (4 - a)) _ + _ = _
  rw [show 4 - (4 - a) = a by omega]

theorem lp_r3 {sc : List Int} {I : Nat → Nat → Int} {L : Nat → Nat → Int64} {B : Nat → Nat → Bool} (hM : BM I B) {Q : Option xPV → xMem → Prop} {a b : Nat} (ha : a < 5) (hb : b < 5) (c : Nat) (hc : c ≤ 5) (acc : Nat) (hk : x_Ex sc 2 xM_B_rings 13 [(1, xi ((acc + sp_r3 B a b (5 - c) : Nat) : Int)), (2, xi ↑a), (3, xi ((b + 1 : Nat) : Int)), (0, xr 92)] [] (xSH, I, L) Q) : x_Ex sc 2 xM_B_rings 23 [(4, xi (↑c)), (3, xi (↑b)), (2, xi (↑a)), (1, xi (↑acc)), (0, xr 92)] [] (xSH, I, L) Q := by
  refine ex_st 2 (pc' := 26) (ls' := [(4, xi (↑c)), (3, xi (↑b)), (2, xi (↑a)), (1, xi (↑acc)), (0, xr 92)]) (st' := [xi 5, xi (↑c)]) rfl ?_
  refine ex_ic rfl (by constructor <;> omega) (by decide) (fun (h0 : (5 : Int) ≤ (↑c : Int)) => ?_) (fun (h0 : ¬ (5 : Int) ≤ (↑c : Int)) => ?_)
  · refine ex_st 2 (pc' := 13) (ls' := [(3, xi ((↑b) + 1)), (4, xi (↑c)), (2, xi (↑a)), (1, xi (↑acc)), (0, xr 92)]) (st' := []) rfl ?_
    rw [show 5 - c = 0 by omega] at hk
    exact ex_pm _ (fun i => by rcases i with _ | _ | _ | _ | _ | _ | _ | _ | _ | i <;> first | (right; rfl) | (left; rfl)) hk
  · refine ex_st 4 (pc' := 34) (ls' := [(4, xi (↑c)), (3, xi (↑b)), (2, xi (↑a)), (1, xi (↑acc)), (0, xr 92)]) (st' := [xi (↑c), xi (↑b), xi (↑a), xr 92]) rfl ?_
    refine ex_call (ct_B_isRing hM (a := a) (b := b) (d := c) (by omega) (by omega) (by omega)) (by decide) rfl ⟨rfl, rfl, rfl⟩ ⟨Nat.le_of_ble_eq_true rfl, rfl, rfl⟩ (Nat.le_of_ble_eq_true rfl) rfl ?_
    refine ex_bne rfl (fun h1 => ?_) (fun h1 => ?_)
    · refine ex_st 3 (pc' := 23) (ls' := [(4, xi ((↑c) + 1)), (1, xi ((↑acc) + 1)), (3, xi (↑b)), (2, xi (↑a)), (0, xr 92)]) (st' := []) rfl ?_
      have e9 : sp_ring B a b c = true := by simp only [sp_ring]; simp_all
      exact ex_pm _ (fun i => by rcases i with _ | _ | _ | _ | _ | _ | _ | _ | _ | i <;> first | (right; rfl) | (left; rfl)) (lp_r3 hM ha hb (c + 1) (by omega) (acc + 1) (by rw [sp_r3_s (by omega), e9, if_pos rfl, ← Nat.add_assoc] at hk; exact hk))
    · refine ex_st 4 (pc' := 45) (ls' := [(4, xi (↑c)), (3, xi (↑b)), (2, xi (↑a)), (1, xi (↑acc)), (0, xr 92)]) (st' := [xi (↑b), xi (↑c), xi (↑a), xr 92]) rfl ?_
      refine ex_call (ct_B_isRing hM (a := a) (b := c) (d := b) (by omega) (by omega) (by omega)) (by decide) rfl ⟨rfl, rfl, rfl⟩ ⟨Nat.le_of_ble_eq_true rfl, rfl, rfl⟩ (Nat.le_of_ble_eq_true rfl) rfl ?_
      refine ex_beq rfl (fun h2 => ?_) (fun h2 => ?_)
      · refine ex_st 2 (pc' := 23) (ls' := [(4, xi ((↑c) + 1)), (3, xi (↑b)), (2, xi (↑a)), (1, xi (↑acc)), (0, xr 92)]) (st' := []) rfl ?_
        have e9 : sp_ring B a b c = false := by simp only [sp_ring]; simp_all
        exact ex_pm _ (fun i => by rcases i with _ | _ | _ | _ | _ | _ | _ | _ | _ | i <;> first | (right; rfl) | (left; rfl)) (lp_r3 hM ha hb (c + 1) (by omega) acc (by rw [sp_r3_s (by omega), e9, if_neg (by decide), Nat.zero_add] at hk; exact hk))
      · refine ex_st 3 (pc' := 23) (ls' := [(4, xi ((↑c) + 1)), (1, xi ((↑acc) + 1)), (3, xi (↑b)), (2, xi (↑a)), (0, xr 92)]) (st' := []) rfl ?_
        have e9 : sp_ring B a b c = true := by simp only [sp_ring]; simp_all
        exact ex_pm _ (fun i => by rcases i with _ | _ | _ | _ | _ | _ | _ | _ | _ | i <;> first | (right; rfl) | (left; rfl)) (lp_r3 hM ha hb (c + 1) (by omega) (acc + 1) (by rw [sp_r3_s (by omega), e9, if_pos rfl, ← Nat.add_assoc] at hk; exact hk))
termination_by 5 - c
decreasing_by all_goals omega
theorem lp_r2 {sc : List Int} {I : Nat → Nat → Int} {L : Nat → Nat → Int64} {B : Nat → Nat → Bool} (hM : BM I B) {Q : Option xPV → xMem → Prop} {a : Nat} (ha : a < 5) (b : Nat) (hb : b ≤ 5) (acc : Nat) (hk : x_Ex sc 2 xM_B_rings 4 [(1, xi ((acc + sp_r2 B a (5 - b) : Nat) : Int)), (2, xi ((a + 1 : Nat) : Int)), (0, xr 92)] [] (xSH, I, L) Q) : x_Ex sc 2 xM_B_rings 13 [(1, xi (↑acc)), (2, xi (↑a)), (3, xi (↑b)), (0, xr 92)] [] (xSH, I, L) Q := by
  refine ex_st 2 (pc' := 15) (ls' := [(1, xi (↑acc)), (2, xi (↑a)), (3, xi (↑b)), (0, xr 92)]) (st' := [xi 5, xi (↑b)]) rfl ?_
  refine ex_ic rfl (by constructor <;> omega) (by decide) (fun (h0 : (5 : Int) ≤ (↑b : Int)) => ?_) (fun (h0 : ¬ (5 : Int) ≤ (↑b : Int)) => ?_)
  · refine ex_st 2 (pc' := 4) (ls' := [(2, xi ((↑a) + 1)), (1, xi (↑acc)), (3, xi (↑b)), (0, xr 92)]) (st' := []) rfl ?_
    rw [show 5 - b = 0 by omega] at hk
    exact ex_pm _ (fun i => by rcases i with _ | _ | _ | _ | _ | _ | _ | _ | _ | i <;> first | (right; rfl) | (left; rfl)) hk
  · refine ex_st 4 (pc' := 23) (ls' := [(4, xi ((↑b) + 1)), (1, xi (↑acc)), (2, xi (↑a)), (3, xi (↑b)), (0, xr 92)]) (st' := []) rfl ?_
    refine ex_pm _ (fun i => by rcases i with _ | _ | _ | _ | _ | _ | _ | _ | _ | i <;> first | (right; rfl) | (left; rfl)) (lp_r3 hM ha (b := b) (by omega) (b + 1) (by omega) acc ?_)
    exact lp_r2 hM ha (b + 1) (by omega) _ (by rw [sp_r2_s (by omega), ← Nat.add_assoc] at hk; exact hk)
termination_by 5 - b
decreasing_by all_goals omega
theorem lp_r1 {sc : List Int} {I : Nat → Nat → Int} {L : Nat → Nat → Int64} {B : Nat → Nat → Bool} (hM : BM I B) (a : Nat) (ha : a ≤ 5) (acc : Nat) : x_Ex sc 2 xM_B_rings 4 [(1, xi (↑acc)), (2, xi (↑a)), (0, xr 92)] [] (xSH, I, L) (fun r m' => r = some (xi ((acc + sp_r1 B (5 - a) : Nat) : Int)) ∧ m' = (xSH, I, L)) := by
  refine ex_st 2 (pc' := 6) (ls' := [(1, xi (↑acc)), (2, xi (↑a)), (0, xr 92)]) (st' := [xi 5, xi (↑a)]) rfl ?_
  refine ex_ic rfl (by constructor <;> omega) (by decide) (fun (h0 : (5 : Int) ≤ (↑a : Int)) => ?_) (fun (h0 : ¬ (5 : Int) ≤ (↑a : Int)) => ?_)
  · refine ex_st 1 (pc' := 73) (ls' := [(1, xi (↑acc)), (2, xi (↑a)), (0, xr 92)]) (st' := [xi (↑acc)]) rfl ?_
    refine ex_reti rfl rfl ?_
    exact ⟨by rw [show 5 - a = 0 by omega]; rfl, rfl⟩
  · refine ex_st 4 (pc' := 13) (ls' := [(3, xi ((↑a) + 1)), (1, xi (↑acc)), (2, xi (↑a)), (0, xr 92)]) (st' := []) rfl ?_
    refine ex_pm _ (fun i => by rcases i with _ | _ | _ | _ | _ | _ | _ | _ | _ | i <;> first | (right; rfl) | (left; rfl)) (lp_r2 hM (a := a) (by omega) (a + 1) (by omega) acc ?_)
    have h9 := lp_r1 (sc := sc) (L := L) hM (a + 1) (by omega) (acc + sp_r2 B a (5 - (a + 1)))
    rw [Nat.add_assoc, ← sp_r1_s (by omega)] at h9
    exact h9
termination_by 5 - a
decreasing_by all_goals omega
theorem ct_B_rings {sc : List Int} {I : Nat → Nat → Int} {L : Nat → Nat → Int64} {B : Nat → Nat → Bool} (hM : BM I B) : x_CE sc 3 xN_B_rings [xr 92] (xSH, I, L) (some (xi ((sp_r1 B 5 : Nat) : Int))) (xSH, I, L) := by
  refine x_CE.of (M := xM_B_rings) rfl (Nat.le_of_ble_eq_true rfl) ?_
  refine ex_st 4 (pc' := 4) (ls' := [(2, xi 0), (1, xi 0), (0, xr 92)]) (st' := []) rfl ?_
  have h9 := lp_r1 (sc := sc) (L := L) hM 0 (by omega) 0
  rw [Nat.zero_add] at h9
  exact ex_pm _ (fun i => by rcases i with _ | _ | _ | _ | _ | _ | _ | _ | _ | i <;> first | (right; rfl) | (left; rfl)) h9
