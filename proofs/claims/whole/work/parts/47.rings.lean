/-! the reference: rings, sets; divisors -/
theorem ct_m_goesRound {sc : List Int} {I : Nat → Nat → Int} {L : Nat → Nat → Int64} {B : Nat → Nat → Bool} (hB : BMm I B) {x y z : Nat} (hx : x < 5) (hy : y < 5) (hz : z < 5) : x_CE sc 1 xN_m_goesRound [xr 143, xi (↑x), xi (↑y), xi (↑z)] (xSH, I, L) (some (xi (x_b (B x y = true ∧ B y z = true ∧ B z x = true)))) (xSH, I, L) := by
  refine x_CE.of (M := xM_m_goesRound) rfl (Nat.le_of_ble_eq_true rfl) ?_
  refine ex_st 7 (pc' := 9) (ls' := [(0, xr 143), (1, xi (↑x)), (2, xi (↑y)), (3, xi (↑z))]) (st' := [xi ((5 * (↑x)) + (↑y)), xr 162]) rfl ?_
  refine ex_bald (j := ((5 * (x)) + (y))) rfl (by decide) (rfl : xSH[162]? = some _) (by omega) (by omega) (by decide) ?_
  rw [(hB x y (by omega) (by omega))]
  refine ex_beq rfl (fun h0 => ?_) (fun h0 => ?_)
  · refine ex_st 1 (pc' := 44) (ls' := [(0, xr 143), (1, xi (↑x)), (2, xi (↑y)), (3, xi (↑z))]) (st' := [xi 0]) rfl ?_
    refine ex_retz rfl (Or.inl rfl) rfl ?_
    exact ⟨by unfold x_b; rw [if_neg (by intro q; first | exact absurd q.1 (by assumption) | exact absurd q.2.1 (by assumption) | exact absurd q.2.2 (by assumption))], rfl⟩
  · refine ex_st 7 (pc' := 22) (ls' := [(0, xr 143), (1, xi (↑x)), (2, xi (↑y)), (3, xi (↑z))]) (st' := [xi ((5 * (↑y)) + (↑z)), xr 162]) rfl ?_
    refine ex_bald (j := ((5 * (y)) + (z))) rfl (by decide) (rfl : xSH[162]? = some _) (by omega) (by omega) (by decide) ?_
    rw [(hB y z (by omega) (by omega))]
    refine ex_beq rfl (fun h1 => ?_) (fun h1 => ?_)
    · refine ex_st 1 (pc' := 44) (ls' := [(0, xr 143), (1, xi (↑x)), (2, xi (↑y)), (3, xi (↑z))]) (st' := [xi 0]) rfl ?_
      refine ex_retz rfl (Or.inl rfl) rfl ?_
      exact ⟨by unfold x_b; rw [if_neg (by intro q; first | exact absurd q.1 (by assumption) | exact absurd q.2.1 (by assumption) | exact absurd q.2.2 (by assumption))], rfl⟩
    · refine ex_st 7 (pc' := 35) (ls' := [(0, xr 143), (1, xi (↑x)), (2, xi (↑y)), (3, xi (↑z))]) (st' := [xi ((5 * (↑z)) + (↑x)), xr 162]) rfl ?_
      refine ex_bald (j := ((5 * (z)) + (x))) rfl (by decide) (rfl : xSH[162]? = some _) (by omega) (by omega) (by decide) ?_
      rw [(hB z x (by omega) (by omega))]
      refine ex_beq rfl (fun h2 => ?_) (fun h2 => ?_)
      · refine ex_st 1 (pc' := 44) (ls' := [(0, xr 143), (1, xi (↑x)), (2, xi (↑y)), (3, xi (↑z))]) (st' := [xi 0]) rfl ?_
        refine ex_retz rfl (Or.inl rfl) rfl ?_
        exact ⟨by unfold x_b; rw [if_neg (by intro q; first | exact absurd q.1 (by assumption) | exact absurd q.2.1 (by assumption) | exact absurd q.2.2 (by assumption))], rfl⟩
      · refine ex_st 2 (pc' := 44) (ls' := [(0, xr 143), (1, xi (↑x)), (2, xi (↑y)), (3, xi (↑z))]) (st' := [xi 1]) rfl ?_
        refine ex_retz rfl (Or.inr rfl) rfl ?_
        exact ⟨by unfold x_b; rw [if_pos ⟨by assumption, by assumption, by assumption⟩], rfl⟩
theorem lp_mr3 {sc : List Int} {I : Nat → Nat → Int} {L : Nat → Nat → Int64} {B : Nat → Nat → Bool} (hB : BMm I B) {Q : Option xPV → xMem → Prop} {a b : Nat} (ha : a < 5) (hb : b < 5) (c : Nat) (hc : c ≤ 5) (acc : Nat) (hk : x_Ex sc 6 xM_m_rings 17 [(1, xi ((acc + sp_r3 B a b (5 - c) : Nat) : Int)), (2, xi ↑a), (3, xi ((b + 1 : Nat) : Int)), (0, xr 143)] [] (xSH, I, L) Q) : x_Ex sc 6 xM_m_rings 27 [(4, xi (↑c)), (3, xi (↑b)), (2, xi (↑a)), (1, xi (↑acc)), (0, xr 143)] [] (xSH, I, L) Q := by
  refine ex_st 2 (pc' := 30) (ls' := [(4, xi (↑c)), (3, xi (↑b)), (2, xi (↑a)), (1, xi (↑acc)), (0, xr 143)]) (st' := [xi 5, xi (↑c)]) rfl ?_
  refine ex_ic rfl (by first | omega | (constructor <;> omega) | assumption | exact x_bR _) (by decide) (fun (h0 : ((5 : Int)) ≤ (↑c : Int)) => ?_) (fun (h0 : ¬ ((5 : Int)) ≤ (↑c : Int)) => ?_)
  · refine ex_st 2 (pc' := 17) (ls' := [(3, xi ((↑b) + 1)), (4, xi (↑c)), (2, xi (↑a)), (1, xi (↑acc)), (0, xr 143)]) (st' := []) rfl ?_
    rw [show 5 - c = 0 by omega] at hk
    exact ex_pm _ (fun i => by rcases i with _ | _ | _ | _ | _ | _ | _ | _ | _ | i <;> first | (right; rfl) | (left; rfl)) hk
  · refine ex_st 5 (pc' := 39) (ls' := [(4, xi (↑c)), (3, xi (↑b)), (2, xi (↑a)), (1, xi (↑acc)), (0, xr 143)]) (st' := [xi (↑c), xi (↑b), xi (↑a), xr 143, xi (↑acc)]) rfl ?_
    refine ex_call (ct_m_goesRound hB (x := a) (y := b) (z := c) (by omega) (by omega) (by omega)) (by decide) rfl ⟨rfl, rfl, rfl⟩ ⟨Nat.le_of_ble_eq_true rfl, rfl, rfl⟩ (Nat.le_of_ble_eq_true rfl) rfl ?_
    refine ex_bne rfl (fun h1 => ?_) (fun h1 => ?_)
    · refine ex_st 6 (pc' := 27) (ls' := [(4, xi ((↑c) + 1)), (1, xi ((↑acc) + 1)), (3, xi (↑b)), (2, xi (↑a)), (0, xr 143)]) (st' := []) rfl ?_
      have e9 : sp_ring B a b c = true := by simp only [sp_ring]; simp_all
      exact ex_pm _ (fun i => by rcases i with _ | _ | _ | _ | _ | _ | _ | _ | _ | i <;> first | (right; rfl) | (left; rfl)) (lp_mr3 hB ha hb (c + 1) (by omega) (acc + 1) (by rw [sp_r3_s (by omega), e9, if_pos rfl, ← Nat.add_assoc] at hk; exact hk))
    · refine ex_st 4 (pc' := 50) (ls' := [(4, xi (↑c)), (3, xi (↑b)), (2, xi (↑a)), (1, xi (↑acc)), (0, xr 143)]) (st' := [xi (↑b), xi (↑c), xi (↑a), xr 143, xi (↑acc)]) rfl ?_
      refine ex_call (ct_m_goesRound hB (x := a) (y := c) (z := b) (by omega) (by omega) (by omega)) (by decide) rfl ⟨rfl, rfl, rfl⟩ ⟨Nat.le_of_ble_eq_true rfl, rfl, rfl⟩ (Nat.le_of_ble_eq_true rfl) rfl ?_
      refine ex_beq rfl (fun h2 => ?_) (fun h2 => ?_)
      · refine ex_st 5 (pc' := 27) (ls' := [(4, xi ((↑c) + 1)), (1, xi ((↑acc) + 0)), (3, xi (↑b)), (2, xi (↑a)), (0, xr 143)]) (st' := []) rfl ?_
        have e9 : sp_ring B a b c = false := by simp only [sp_ring]; simp_all
        exact ex_pm _ (fun i => by rcases i with _ | _ | _ | _ | _ | _ | _ | _ | _ | i <;> first | (right; rfl) | (left; rfl)) (lp_mr3 hB ha hb (c + 1) (by omega) acc (by rw [sp_r3_s (by omega), e9, if_neg (by decide), Nat.zero_add] at hk; exact hk))
      · refine ex_st 6 (pc' := 27) (ls' := [(4, xi ((↑c) + 1)), (1, xi ((↑acc) + 1)), (3, xi (↑b)), (2, xi (↑a)), (0, xr 143)]) (st' := []) rfl ?_
        have e9 : sp_ring B a b c = true := by simp only [sp_ring]; simp_all
        exact ex_pm _ (fun i => by rcases i with _ | _ | _ | _ | _ | _ | _ | _ | _ | i <;> first | (right; rfl) | (left; rfl)) (lp_mr3 hB ha hb (c + 1) (by omega) (acc + 1) (by rw [sp_r3_s (by omega), e9, if_pos rfl, ← Nat.add_assoc] at hk; exact hk))
termination_by 5 - c
decreasing_by all_goals (omega)
theorem lp_mr2 {sc : List Int} {I : Nat → Nat → Int} {L : Nat → Nat → Int64} {B : Nat → Nat → Bool} (hB : BMm I B) {Q : Option xPV → xMem → Prop} {a : Nat} (ha : a < 5) (b : Nat) (hb : b ≤ 5) (acc : Nat) (hk : x_Ex sc 6 xM_m_rings 8 [(1, xi ((acc + sp_r2 B a (5 - b) : Nat) : Int)), (2, xi ((a + 1 : Nat) : Int)), (0, xr 143)] [] (xSH, I, L) Q) : x_Ex sc 6 xM_m_rings 17 [(1, xi (↑acc)), (2, xi (↑a)), (3, xi (↑b)), (0, xr 143)] [] (xSH, I, L) Q := by
  refine ex_st 2 (pc' := 19) (ls' := [(1, xi (↑acc)), (2, xi (↑a)), (3, xi (↑b)), (0, xr 143)]) (st' := [xi 5, xi (↑b)]) rfl ?_
  refine ex_ic rfl (by first | omega | (constructor <;> omega) | assumption | exact x_bR _) (by decide) (fun (h0 : ((5 : Int)) ≤ (↑b : Int)) => ?_) (fun (h0 : ¬ ((5 : Int)) ≤ (↑b : Int)) => ?_)
  · refine ex_st 2 (pc' := 8) (ls' := [(2, xi ((↑a) + 1)), (1, xi (↑acc)), (3, xi (↑b)), (0, xr 143)]) (st' := []) rfl ?_
    rw [show 5 - b = 0 by omega] at hk
    exact ex_pm _ (fun i => by rcases i with _ | _ | _ | _ | _ | _ | _ | _ | _ | i <;> first | (right; rfl) | (left; rfl)) hk
  · refine ex_st 4 (pc' := 27) (ls' := [(4, xi ((↑b) + 1)), (1, xi (↑acc)), (2, xi (↑a)), (3, xi (↑b)), (0, xr 143)]) (st' := []) rfl ?_
    refine ex_pm _ (fun i => by rcases i with _ | _ | _ | _ | _ | _ | _ | _ | _ | i <;> first | (right; rfl) | (left; rfl)) (lp_mr3 hB ha (b := b) (by omega) (b + 1) (by omega) acc ?_)
    exact lp_mr2 hB ha (b + 1) (by omega) _ (by rw [sp_r2_s (by omega), ← Nat.add_assoc] at hk; exact hk)
termination_by 5 - b
decreasing_by all_goals (omega)
theorem lp_mr1 {sc : List Int} {I : Nat → Nat → Int} {L : Nat → Nat → Int64} {B : Nat → Nat → Bool} (hB : BMm I B) (a : Nat) (ha : a ≤ 5) (acc : Nat) : x_Ex sc 6 xM_m_rings 8 [(1, xi (↑acc)), (2, xi (↑a)), (0, xr 143)] [] (xSH, I, L) (fun r m' => r = some (xi ((acc + sp_r1 B (5 - a) : Nat) : Int)) ∧ m' = (xSH, I, L)) := by
  refine ex_st 2 (pc' := 10) (ls' := [(1, xi (↑acc)), (2, xi (↑a)), (0, xr 143)]) (st' := [xi 5, xi (↑a)]) rfl ?_
  refine ex_ic rfl (by first | omega | (constructor <;> omega) | assumption | exact x_bR _) (by decide) (fun (h0 : ((5 : Int)) ≤ (↑a : Int)) => ?_) (fun (h0 : ¬ ((5 : Int)) ≤ (↑a : Int)) => ?_)
  · refine ex_st 1 (pc' := 82) (ls' := [(1, xi (↑acc)), (2, xi (↑a)), (0, xr 143)]) (st' := [xi (↑acc)]) rfl ?_
    refine ex_reti rfl rfl ?_
    rw [show 5 - a = 0 by omega]
    exact ⟨rfl, rfl⟩
  · refine ex_st 4 (pc' := 17) (ls' := [(3, xi ((↑a) + 1)), (1, xi (↑acc)), (2, xi (↑a)), (0, xr 143)]) (st' := []) rfl ?_
    refine ex_pm _ (fun i => by rcases i with _ | _ | _ | _ | _ | _ | _ | _ | _ | i <;> first | (right; rfl) | (left; rfl)) (lp_mr2 hB (a := a) (by omega) (a + 1) (by omega) acc ?_)
    have h9 := lp_mr1 (sc := sc) (L := L) hB (a + 1) (by omega) (acc + sp_r2 B a (5 - (a + 1)))
    rw [Nat.add_assoc, ← sp_r1_s (by omega)] at h9
    exact h9
termination_by 5 - a
decreasing_by all_goals (omega)
def sp_bq (s : Nat) : Nat → Nat
  | 0 => 0
  | n + 1 => sp_bq s n + (if s.testBit n = true then 1 else 0)
theorem sp_bq6 : ∀ s, s < 64 → sp_bq s 6 = sp_bc s := by decide +kernel
theorem lp_mbits {sc : List Int} {I : Nat → Nat → Int} {L : Nat → Nat → Int64} {s : Nat} (hs : s < 64) (k : Nat) (hk : k ≤ 6) : x_Ex sc 1 xM_m_bits 4 [(3, xi (↑k)), (2, xi (↑(sp_bq s k))), (0, xr 143), (1, xi (↑s))] [] (xSH, I, L) (fun r m' => r = some (xi ((sp_bc s : Nat) : Int)) ∧ m' = (xSH, I, L)) := by
  refine ex_st 2 (pc' := 7) (ls' := [(3, xi (↑k)), (2, xi (↑(sp_bq s k))), (0, xr 143), (1, xi (↑s))]) (st' := [xi 6, xi (↑k)]) rfl ?_
  refine ex_ic rfl (by first | omega | (constructor <;> omega) | assumption | exact x_bR _) (by decide) (fun (h0 : ((6 : Int)) ≤ (↑k : Int)) => ?_) (fun (h0 : ¬ ((6 : Int)) ≤ (↑k : Int)) => ?_)
  · refine ex_st 1 (pc' := 34) (ls' := [(3, xi (↑k)), (2, xi (↑(sp_bq s k))), (0, xr 143), (1, xi (↑s))]) (st' := [xi (↑(sp_bq s k))]) rfl ?_
    refine ex_reti rfl rfl ?_
    obtain rfl : k = 6 := by omega
    rw [sp_bq6 s hs]
    exact ⟨rfl, rfl⟩
  · refine ex_st 4 (pc' := 14) (ls' := [(3, xi (↑k)), (2, xi (↑(sp_bq s k))), (0, xr 143), (1, xi (↑s))]) (st' := [xi (↑k), xi (↑s), xr 143, xi (↑(sp_bq s k))]) rfl ?_
    refine ex_call (ct_m_has hs (by omega)) (by decide) rfl ⟨rfl, rfl, rfl⟩ ⟨Nat.le_of_ble_eq_true rfl, rfl, rfl⟩ (Nat.le_of_ble_eq_true rfl) rfl ?_
    refine ex_beq rfl (fun h1 => ?_) (fun h1 => ?_)
    · refine ex_st 5 (pc' := 4) (ls' := [(3, xi ((↑k) + 1)), (2, xi ((↑(sp_bq s k)) + 0)), (0, xr 143), (1, xi (↑s))]) (st' := []) rfl ?_
      have h9 := lp_mbits (sc := sc) (I := I) (L := L) hs (k + 1) (by omega)
      rw [show sp_bq s (k + 1) = sp_bq s k + 0 from by show _ + _ = _; rw [if_neg (by assumption)]] at h9
      exact h9
    · refine ex_st 6 (pc' := 4) (ls' := [(3, xi ((↑k) + 1)), (2, xi ((↑(sp_bq s k)) + 1)), (0, xr 143), (1, xi (↑s))]) (st' := []) rfl ?_
      have h9 := lp_mbits (sc := sc) (I := I) (L := L) hs (k + 1) (by omega)
      rw [show sp_bq s (k + 1) = sp_bq s k + 1 from by show _ + _ = _; rw [if_pos (by assumption)]] at h9
      exact h9
termination_by 6 - k
decreasing_by all_goals (omega)
theorem ct_m_bits {sc : List Int} {I : Nat → Nat → Int} {L : Nat → Nat → Int64} {s : Nat} (hs : s < 64) : x_CE sc 2 xN_m_bits [xr 143, xi (↑s)] (xSH, I, L) (some (xi ((sp_bc s : Nat) : Int))) (xSH, I, L) := by
  refine x_CE.of (M := xM_m_bits) rfl (Nat.le_of_ble_eq_true rfl) ?_
  refine ex_st 4 (pc' := 4) (ls' := [(3, xi 0), (2, xi 0), (0, xr 143), (1, xi (↑s))]) (st' := []) rfl ?_
  exact lp_mbits hs 0 (by omega)
/-- those that are not away -/
def sp_pr (c g : Nat) : Nat := sp_wo (2 ^ c - 1) g
theorem z_pr : ∀ c : Nat, c < 7 → ∀ g : Nat, g < 64 → z_and (z_shl 1 (↑c) - 1) (z_xor (↑g) (-1)) = ((sp_pr c g : Nat) : Int) ∧ sp_pr c g < 64 ∧ ∀ p, p < 6 → (sp_pr c g).testBit p = (decide (p < c) && !g.testBit p) := by decide +kernel
theorem ct_m_present {sc : List Int} {I : Nat → Nat → Int} {L : Nat → Nat → Int64} {c g : Nat} (hc : I 143 0 = (c : Int)) (hc6 : c ≤ 6) (hg1 : I 143 1 = (g : Int)) (hg : g < 64) : x_CE sc 1 xN_m_present [xr 143] (xSH, I, L) (some (xi ((sp_pr c g : Nat) : Int))) (xSH, I, L) := by
  refine x_CE.of (M := xM_m_present) rfl (Nat.le_of_ble_eq_true rfl) ?_
  refine ex_st 3 (pc' := 5) (ls' := [(0, xr 143)]) (st' := [xi (I 143 0), xi 1]) rfl ?_
  rw [hc]
  refine ex_st 5 (pc' := 12) (ls' := [(0, xr 143)]) (st' := [xi (I 143 1), xi (z_shl 1 (↑c) - 1)]) rfl ?_
  rw [hg1]
  refine ex_st 3 (pc' := 15) (ls' := [(0, xr 143)]) (st' := [xi (z_and (z_shl 1 (↑c) - 1) (z_xor (↑g) (-1)))]) rfl ?_
  rw [(z_pr c (by omega) g hg).1]
  refine ex_reti rfl rfl ?_
  exact ⟨rfl, rfl⟩
theorem lp_mvo {sc : List Int} {I : Nat → Nat → Int} {L : Nat → Nat → Int64} {c : Nat} {kd : Nat → Nat} {vv vo aw : Nat → Int} {ba ro : Nat → Nat → Int} {egg : Int} {se : Nat} (hM : MW I c kd vv vo aw ba ro egg se) {s : Nat} (hs : s < 64) (p : Nat) (hp : p ≤ c) : x_Ex sc 1 xM_m_votesOf 4 [(3, xi (↑p)), (2, xi (sp_vo vo s p)), (0, xr 143), (1, xi (↑s))] [] (xSH, I, L) (fun r m' => r = some (xi (sp_vo vo s c)) ∧ m' = (xSH, I, L)) := by
  obtain ⟨hc, hc6, hegg, hegb, hse, hse5, hab, hp8⟩ := id hM
  refine ex_st 3 (pc' := 9) (ls' := [(3, xi (↑p)), (2, xi (sp_vo vo s p)), (0, xr 143), (1, xi (↑s))]) (st' := [xi (I 143 0), xi (↑p)]) rfl ?_
  rw [hc]
  refine ex_ic rfl (by first | omega | (constructor <;> omega) | assumption | exact x_bR _) (by first | omega | (constructor <;> omega) | assumption | exact x_bR _) (fun (h0 : (↑c : Int) ≤ (↑p : Int)) => ?_) (fun (h0 : ¬ (↑c : Int) ≤ (↑p : Int)) => ?_)
  · refine ex_st 1 (pc' := 41) (ls' := [(3, xi (↑p)), (2, xi (sp_vo vo s p)), (0, xr 143), (1, xi (↑s))]) (st' := [xi (sp_vo vo s p)]) rfl ?_
    refine ex_reti rfl rfl ?_
    obtain rfl : p = c := by omega
    exact ⟨rfl, rfl⟩
  · refine ex_st 4 (pc' := 16) (ls' := [(3, xi (↑p)), (2, xi (sp_vo vo s p)), (0, xr 143), (1, xi (↑s))]) (st' := [xi (↑p), xi (↑s), xr 143, xi (sp_vo vo s p)]) rfl ?_
    refine ex_call (ct_m_has hs (by omega)) (by decide) rfl ⟨rfl, rfl, rfl⟩ ⟨Nat.le_of_ble_eq_true rfl, rfl, rfl⟩ (Nat.le_of_ble_eq_true rfl) rfl ?_
    refine ex_beq rfl (fun h1 => ?_) (fun h1 => ?_)
    · refine ex_st 5 (pc' := 4) (ls' := [(3, xi ((↑p) + 1)), (2, xi ((sp_vo vo s p) + 0)), (0, xr 143), (1, xi (↑s))]) (st' := []) rfl ?_
      have h9 := lp_mvo (sc := sc) (L := L) hM hs (p + 1) (by omega)
      rw [show sp_vo vo s (p + 1) = sp_vo vo s p + 0 from by show _ + _ = _; rw [if_neg (by assumption)]] at h9
      exact h9
    · refine ex_st 3 (pc' := 27) (ls' := [(3, xi (↑p)), (2, xi (sp_vo vo s p)), (0, xr 143), (1, xi (↑s))]) (st' := [xi (↑p), xr 146, xi (sp_vo vo s p)]) rfl ?_
      refine ex_iald (j := p) rfl (by decide) (rfl : xSH[146]? = some _) (by omega) (by omega) (by decide) ?_
      rw [(hp8 p (by omega)).2.2.2.2.1]
      refine ex_st 5 (pc' := 4) (ls' := [(3, xi ((↑p) + 1)), (2, xi ((sp_vo vo s p) + (vo p))), (0, xr 143), (1, xi (↑s))]) (st' := []) rfl ?_
      have h9 := lp_mvo (sc := sc) (L := L) hM hs (p + 1) (by omega)
      rw [show sp_vo vo s (p + 1) = sp_vo vo s p + vo p from by show _ + _ = _; rw [if_pos (by assumption)]] at h9
      exact h9
termination_by c - p
decreasing_by all_goals (omega)
theorem ct_m_votesOf {sc : List Int} {I : Nat → Nat → Int} {L : Nat → Nat → Int64} {c : Nat} {kd : Nat → Nat} {vv vo aw : Nat → Int} {ba ro : Nat → Nat → Int} {egg : Int} {se : Nat} (hM : MW I c kd vv vo aw ba ro egg se) {s : Nat} (hs : s < 64) : x_CE sc 2 xN_m_votesOf [xr 143, xi (↑s)] (xSH, I, L) (some (xi (sp_vo vo s c))) (xSH, I, L) := by
  refine x_CE.of (M := xM_m_votesOf) rfl (Nat.le_of_ble_eq_true rfl) ?_
  refine ex_st 4 (pc' := 4) (ls' := [(3, xi 0), (2, xi 0), (0, xr 143), (1, xi (↑s))]) (st' := []) rfl ?_
  exact lp_mvo hM hs 0 (by omega)
theorem ct_m_manyRows0 {sc : List Int} {I : Nat → Nat → Int} {L : Nat → Nat → Int64} : x_CE sc 1 xN_m_manyRows [xr 143, xi 0] (xSH, I, L) (some (xi ((sp_fa 0 : Nat) : Int))) (xSH, I, L) := by
  refine x_CE.of (M := xM_m_manyRows) rfl (Nat.le_of_ble_eq_true rfl) ?_
  refine ex_st 6 (pc' := 6) (ls' := [(3, xi 2), (2, xi 1), (0, xr 143), (1, xi 0)]) (st' := [xi 0, xi 2]) rfl ?_
  refine ex_st 1 (pc' := 19) (ls' := [(3, xi 2), (2, xi 1), (0, xr 143), (1, xi 0)]) (st' := []) rfl ?_
  refine ex_st 1 (pc' := 20) (ls' := [(3, xi 2), (2, xi 1), (0, xr 143), (1, xi 0)]) (st' := [xi 1]) rfl ?_
  refine ex_reti rfl rfl ?_
  exact ⟨rfl, rfl⟩
theorem ct_m_manyRows1 {sc : List Int} {I : Nat → Nat → Int} {L : Nat → Nat → Int64} : x_CE sc 1 xN_m_manyRows [xr 143, xi 1] (xSH, I, L) (some (xi ((sp_fa 1 : Nat) : Int))) (xSH, I, L) := by
  refine x_CE.of (M := xM_m_manyRows) rfl (Nat.le_of_ble_eq_true rfl) ?_
  refine ex_st 6 (pc' := 6) (ls' := [(3, xi 2), (2, xi 1), (0, xr 143), (1, xi 1)]) (st' := [xi 1, xi 2]) rfl ?_
  refine ex_st 1 (pc' := 19) (ls' := [(3, xi 2), (2, xi 1), (0, xr 143), (1, xi 1)]) (st' := []) rfl ?_
  refine ex_st 1 (pc' := 20) (ls' := [(3, xi 2), (2, xi 1), (0, xr 143), (1, xi 1)]) (st' := [xi 1]) rfl ?_
  refine ex_reti rfl rfl ?_
  exact ⟨rfl, rfl⟩
theorem ct_m_manyRows2 {sc : List Int} {I : Nat → Nat → Int} {L : Nat → Nat → Int64} : x_CE sc 1 xN_m_manyRows [xr 143, xi 2] (xSH, I, L) (some (xi ((sp_fa 2 : Nat) : Int))) (xSH, I, L) := by
  refine x_CE.of (M := xM_m_manyRows) rfl (Nat.le_of_ble_eq_true rfl) ?_
  refine ex_st 6 (pc' := 6) (ls' := [(3, xi 2), (2, xi 1), (0, xr 143), (1, xi 2)]) (st' := [xi 2, xi 2]) rfl ?_
  refine ex_st 1 (pc' := 9) (ls' := [(3, xi 2), (2, xi 1), (0, xr 143), (1, xi 2)]) (st' := []) rfl ?_
  refine ex_st 8 (pc' := 6) (ls' := [(3, xi 3), (2, xi 2), (0, xr 143), (1, xi 2)]) (st' := [xi 2, xi 3]) rfl ?_
  refine ex_st 1 (pc' := 19) (ls' := [(3, xi 3), (2, xi 2), (0, xr 143), (1, xi 2)]) (st' := []) rfl ?_
  refine ex_st 1 (pc' := 20) (ls' := [(3, xi 3), (2, xi 2), (0, xr 143), (1, xi 2)]) (st' := [xi 2]) rfl ?_
  refine ex_reti rfl rfl ?_
  exact ⟨rfl, rfl⟩
theorem ct_m_manyRows3 {sc : List Int} {I : Nat → Nat → Int} {L : Nat → Nat → Int64} : x_CE sc 1 xN_m_manyRows [xr 143, xi 3] (xSH, I, L) (some (xi ((sp_fa 3 : Nat) : Int))) (xSH, I, L) := by
  refine x_CE.of (M := xM_m_manyRows) rfl (Nat.le_of_ble_eq_true rfl) ?_
  refine ex_st 6 (pc' := 6) (ls' := [(3, xi 2), (2, xi 1), (0, xr 143), (1, xi 3)]) (st' := [xi 3, xi 2]) rfl ?_
  refine ex_st 1 (pc' := 9) (ls' := [(3, xi 2), (2, xi 1), (0, xr 143), (1, xi 3)]) (st' := []) rfl ?_
  refine ex_st 8 (pc' := 6) (ls' := [(3, xi 3), (2, xi 2), (0, xr 143), (1, xi 3)]) (st' := [xi 3, xi 3]) rfl ?_
  refine ex_st 1 (pc' := 9) (ls' := [(3, xi 3), (2, xi 2), (0, xr 143), (1, xi 3)]) (st' := []) rfl ?_
  refine ex_st 8 (pc' := 6) (ls' := [(3, xi 4), (2, xi 6), (0, xr 143), (1, xi 3)]) (st' := [xi 3, xi 4]) rfl ?_
  refine ex_st 1 (pc' := 19) (ls' := [(3, xi 4), (2, xi 6), (0, xr 143), (1, xi 3)]) (st' := []) rfl ?_
  refine ex_st 1 (pc' := 20) (ls' := [(3, xi 4), (2, xi 6), (0, xr 143), (1, xi 3)]) (st' := [xi 6]) rfl ?_
  refine ex_reti rfl rfl ?_
  exact ⟨rfl, rfl⟩
theorem ct_m_manyRows4 {sc : List Int} {I : Nat → Nat → Int} {L : Nat → Nat → Int64} : x_CE sc 1 xN_m_manyRows [xr 143, xi 4] (xSH, I, L) (some (xi ((sp_fa 4 : Nat) : Int))) (xSH, I, L) := by
  refine x_CE.of (M := xM_m_manyRows) rfl (Nat.le_of_ble_eq_true rfl) ?_
  refine ex_st 6 (pc' := 6) (ls' := [(3, xi 2), (2, xi 1), (0, xr 143), (1, xi 4)]) (st' := [xi 4, xi 2]) rfl ?_
  refine ex_st 1 (pc' := 9) (ls' := [(3, xi 2), (2, xi 1), (0, xr 143), (1, xi 4)]) (st' := []) rfl ?_
  refine ex_st 8 (pc' := 6) (ls' := [(3, xi 3), (2, xi 2), (0, xr 143), (1, xi 4)]) (st' := [xi 4, xi 3]) rfl ?_
  refine ex_st 1 (pc' := 9) (ls' := [(3, xi 3), (2, xi 2), (0, xr 143), (1, xi 4)]) (st' := []) rfl ?_
  refine ex_st 8 (pc' := 6) (ls' := [(3, xi 4), (2, xi 6), (0, xr 143), (1, xi 4)]) (st' := [xi 4, xi 4]) rfl ?_
  refine ex_st 1 (pc' := 9) (ls' := [(3, xi 4), (2, xi 6), (0, xr 143), (1, xi 4)]) (st' := []) rfl ?_
  refine ex_st 8 (pc' := 6) (ls' := [(3, xi 5), (2, xi 24), (0, xr 143), (1, xi 4)]) (st' := [xi 4, xi 5]) rfl ?_
  refine ex_st 1 (pc' := 19) (ls' := [(3, xi 5), (2, xi 24), (0, xr 143), (1, xi 4)]) (st' := []) rfl ?_
  refine ex_st 1 (pc' := 20) (ls' := [(3, xi 5), (2, xi 24), (0, xr 143), (1, xi 4)]) (st' := [xi 24]) rfl ?_
  refine ex_reti rfl rfl ?_
  exact ⟨rfl, rfl⟩
theorem ct_m_manyRows5 {sc : List Int} {I : Nat → Nat → Int} {L : Nat → Nat → Int64} : x_CE sc 1 xN_m_manyRows [xr 143, xi 5] (xSH, I, L) (some (xi ((sp_fa 5 : Nat) : Int))) (xSH, I, L) := by
  refine x_CE.of (M := xM_m_manyRows) rfl (Nat.le_of_ble_eq_true rfl) ?_
  refine ex_st 6 (pc' := 6) (ls' := [(3, xi 2), (2, xi 1), (0, xr 143), (1, xi 5)]) (st' := [xi 5, xi 2]) rfl ?_
  refine ex_st 1 (pc' := 9) (ls' := [(3, xi 2), (2, xi 1), (0, xr 143), (1, xi 5)]) (st' := []) rfl ?_
  refine ex_st 8 (pc' := 6) (ls' := [(3, xi 3), (2, xi 2), (0, xr 143), (1, xi 5)]) (st' := [xi 5, xi 3]) rfl ?_
  refine ex_st 1 (pc' := 9) (ls' := [(3, xi 3), (2, xi 2), (0, xr 143), (1, xi 5)]) (st' := []) rfl ?_
  refine ex_st 8 (pc' := 6) (ls' := [(3, xi 4), (2, xi 6), (0, xr 143), (1, xi 5)]) (st' := [xi 5, xi 4]) rfl ?_
  refine ex_st 1 (pc' := 9) (ls' := [(3, xi 4), (2, xi 6), (0, xr 143), (1, xi 5)]) (st' := []) rfl ?_
  refine ex_st 8 (pc' := 6) (ls' := [(3, xi 5), (2, xi 24), (0, xr 143), (1, xi 5)]) (st' := [xi 5, xi 5]) rfl ?_
  refine ex_st 1 (pc' := 9) (ls' := [(3, xi 5), (2, xi 24), (0, xr 143), (1, xi 5)]) (st' := []) rfl ?_
  refine ex_st 8 (pc' := 6) (ls' := [(3, xi 6), (2, xi 120), (0, xr 143), (1, xi 5)]) (st' := [xi 5, xi 6]) rfl ?_
  refine ex_st 1 (pc' := 19) (ls' := [(3, xi 6), (2, xi 120), (0, xr 143), (1, xi 5)]) (st' := []) rfl ?_
  refine ex_st 1 (pc' := 20) (ls' := [(3, xi 6), (2, xi 120), (0, xr 143), (1, xi 5)]) (st' := [xi 120]) rfl ?_
  refine ex_reti rfl rfl ?_
  exact ⟨rfl, rfl⟩
theorem ct_m_manyRows6 {sc : List Int} {I : Nat → Nat → Int} {L : Nat → Nat → Int64} : x_CE sc 1 xN_m_manyRows [xr 143, xi 6] (xSH, I, L) (some (xi ((sp_fa 6 : Nat) : Int))) (xSH, I, L) := by
  refine x_CE.of (M := xM_m_manyRows) rfl (Nat.le_of_ble_eq_true rfl) ?_
  refine ex_st 6 (pc' := 6) (ls' := [(3, xi 2), (2, xi 1), (0, xr 143), (1, xi 6)]) (st' := [xi 6, xi 2]) rfl ?_
  refine ex_st 1 (pc' := 9) (ls' := [(3, xi 2), (2, xi 1), (0, xr 143), (1, xi 6)]) (st' := []) rfl ?_
  refine ex_st 8 (pc' := 6) (ls' := [(3, xi 3), (2, xi 2), (0, xr 143), (1, xi 6)]) (st' := [xi 6, xi 3]) rfl ?_
  refine ex_st 1 (pc' := 9) (ls' := [(3, xi 3), (2, xi 2), (0, xr 143), (1, xi 6)]) (st' := []) rfl ?_
  refine ex_st 8 (pc' := 6) (ls' := [(3, xi 4), (2, xi 6), (0, xr 143), (1, xi 6)]) (st' := [xi 6, xi 4]) rfl ?_
  refine ex_st 1 (pc' := 9) (ls' := [(3, xi 4), (2, xi 6), (0, xr 143), (1, xi 6)]) (st' := []) rfl ?_
  refine ex_st 8 (pc' := 6) (ls' := [(3, xi 5), (2, xi 24), (0, xr 143), (1, xi 6)]) (st' := [xi 6, xi 5]) rfl ?_
  refine ex_st 1 (pc' := 9) (ls' := [(3, xi 5), (2, xi 24), (0, xr 143), (1, xi 6)]) (st' := []) rfl ?_
  refine ex_st 8 (pc' := 6) (ls' := [(3, xi 6), (2, xi 120), (0, xr 143), (1, xi 6)]) (st' := [xi 6, xi 6]) rfl ?_
  refine ex_st 1 (pc' := 9) (ls' := [(3, xi 6), (2, xi 120), (0, xr 143), (1, xi 6)]) (st' := []) rfl ?_
  refine ex_st 8 (pc' := 6) (ls' := [(3, xi 7), (2, xi 720), (0, xr 143), (1, xi 6)]) (st' := [xi 6, xi 7]) rfl ?_
  refine ex_st 1 (pc' := 19) (ls' := [(3, xi 7), (2, xi 720), (0, xr 143), (1, xi 6)]) (st' := []) rfl ?_
  refine ex_st 1 (pc' := 20) (ls' := [(3, xi 7), (2, xi 720), (0, xr 143), (1, xi 6)]) (st' := [xi 720]) rfl ?_
  refine ex_reti rfl rfl ?_
  exact ⟨rfl, rfl⟩
theorem ct_m_manyRows {sc : List Int} {I : Nat → Nat → Int} {L : Nat → Nat → Int64} {n : Nat} (hn : n < 7) : x_CE sc 1 xN_m_manyRows [xr 143, xi (↑n)] (xSH, I, L) (some (xi ((sp_fa n : Nat) : Int))) (xSH, I, L) := by
  rcases (show n = 0 ∨ n = 1 ∨ n = 2 ∨ n = 3 ∨ n = 4 ∨ n = 5 ∨ n = 6 by omega) with rfl | rfl | rfl | rfl | rfl | rfl | rfl
  · exact ct_m_manyRows0
  · exact ct_m_manyRows1
  · exact ct_m_manyRows2
  · exact ct_m_manyRows3
  · exact ct_m_manyRows4
  · exact ct_m_manyRows5
  · exact ct_m_manyRows6
/-- the common divisor, by at most so many steps -/
def sp_gs : Nat → Nat → Nat → Nat
  | 0, a, _ => a
  | n + 1, a, b => if b = 0 then a else sp_gs n b (a % b)
theorem sp_gs_gcd : ∀ (k n a b : Nat), b < 2 ^ k → 2 * k + 1 ≤ n → sp_gs n a b = Nat.gcd b a
  | 0, n + 1, a, b, hb, hn => by
    have : b = 0 := by simpa using hb
    subst this
    simp [sp_gs]
  | k + 1, n + 1, a, b, hb, hn => by
    unfold sp_gs
    by_cases h : b = 0
    · subst h; simp
    · rw [if_neg h]
      obtain ⟨n, rfl⟩ : ∃ m, n = m + 1 := ⟨n - 1, by omega⟩
      unfold sp_gs
      have hr : a % b < b := Nat.mod_lt _ (by omega)
      by_cases h2 : a % b = 0
      · rw [if_pos h2, Nat.gcd_rec b a, h2, Nat.gcd_zero_left]
      · rw [if_neg h2]
        have h3 : b % (a % b) < 2 ^ k := by
          have h4 : b % (a % b) < a % b := Nat.mod_lt _ (by omega)
          have h5 : b % (a % b) + (a % b) ≤ b := by
            have := Nat.div_add_mod b (a % b)
            have h6 : 1 ≤ b / (a % b) := (Nat.one_le_div_iff (by omega)).mpr (by omega)
            have h7 : a % b * 1 ≤ a % b * (b / (a % b)) := Nat.mul_le_mul_left _ h6
            omega
          have : 2 ^ (k + 1) = 2 * 2 ^ k := by rw [Nat.pow_succ]; omega
          omega
        rw [sp_gs_gcd k n _ _ h3 (by omega), ← Nat.gcd_rec (a % b) b, ← Nat.gcd_rec b a]
theorem sp_gs_more {n a b : Nat} (h : b < 1024) (hn : 21 ≤ n) : sp_gs n a b = Nat.gcd b a := sp_gs_gcd 10 n a b h (by omega)

theorem lp_Gcd {sc : List Int} {m : xMem} {u w : Int} {a b : Nat} (ha : a < 1000000) (hb : b < 1000000) (i : Nat) (hi : i ≤ 64) : x_Ex sc 0 xM_G_commonDivisor 7 [(4, xi (↑i)), (3, xi (↑b)), (2, xi (↑a)), (0, xi u), (1, xi w)] [] m (fun r m' => r = some (xi ((sp_gs (64 - i) a b : Nat) : Int)) ∧ m' = m) := by
  refine ex_st 2 (pc' := 11) (ls' := [(4, xi (↑i)), (3, xi (↑b)), (2, xi (↑a)), (0, xi u), (1, xi w)]) (st' := [xi 64, xi (↑i)]) rfl ?_
  refine ex_ic rfl (by first | omega | (constructor <;> omega) | assumption | exact x_bR _) (by decide) (fun (h0 : ((64 : Int)) ≤ (↑i : Int)) => ?_) (fun (h0 : ¬ ((64 : Int)) ≤ (↑i : Int)) => ?_)
  · refine ex_st 1 (pc' := 35) (ls' := [(4, xi (↑i)), (3, xi (↑b)), (2, xi (↑a)), (0, xi u), (1, xi w)]) (st' := [xi (↑a)]) rfl ?_
    refine ex_reti rfl rfl ?_
    first | (rw [show 64 - i = 0 by omega]; exact ⟨rfl, rfl⟩) | (obtain rfl : b = 0 := by omega); (by_cases e : 64 - i = 0); (rw [e]; exact ⟨rfl, rfl⟩); (rw [show 64 - i = (63 - i) + 1 by omega]; exact ⟨rfl, rfl⟩)
  · refine ex_st 1 (pc' := 15) (ls' := [(4, xi (↑i)), (3, xi (↑b)), (2, xi (↑a)), (0, xi u), (1, xi w)]) (st' := [xi (↑b)]) rfl ?_
    refine ex_if rfl (by first | omega | (constructor <;> omega) | assumption | exact x_bR _) (fun (h1 : (↑b : Int) = 0) => ?_) (fun (h1 : ¬ (↑b : Int) = 0) => ?_)
    · refine ex_st 1 (pc' := 35) (ls' := [(4, xi (↑i)), (3, xi (↑b)), (2, xi (↑a)), (0, xi u), (1, xi w)]) (st' := [xi (↑a)]) rfl ?_
      refine ex_reti rfl rfl ?_
      first | (rw [show 64 - i = 0 by omega]; exact ⟨rfl, rfl⟩) | (obtain rfl : b = 0 := by omega); (by_cases e : 64 - i = 0); (rw [e]; exact ⟨rfl, rfl⟩); (rw [show 64 - i = (63 - i) + 1 by omega]; exact ⟨rfl, rfl⟩)
    · refine ex_st 2 (pc' := 20) (ls' := [(4, xi (↑i)), (3, xi (↑b)), (2, xi (↑a)), (0, xi u), (1, xi w)]) (st' := [xi (↑b), xi (↑a)]) rfl ?_
      refine ex_irem rfl (by first | omega | (constructor <;> omega) | assumption | exact x_bR _) (by first | omega | (constructor <;> omega) | assumption | exact x_bR _) (by omega) ?_
      rw [show Int.tmod ((a : Nat) : Int) ((b : Nat) : Int) = ((a % b : Nat) : Int) from rfl]
      refine ex_st 7 (pc' := 7) (ls' := [(4, xi ((↑i) + 1)), (3, xi (↑(a % b))), (2, xi (↑b)), (5, xi (↑(a % b))), (0, xi u), (1, xi w)]) (st' := []) rfl ?_
      have h9 := lp_Gcd (sc := sc) (m := m) (u := u) (w := w) (a := b) (b := a % b) (by omega) (by have := Nat.mod_lt a (show 0 < b by omega); omega) (i + 1) (by omega)
      rw [show sp_gs (64 - i) a b = sp_gs (64 - (i + 1)) b (a % b) from by rw [show 64 - i = (64 - (i + 1)) + 1 by omega]; show (if _ then _ else _) = _; rw [if_neg (by omega)]]
      refine ex_pm [(4, xi (↑i + 1)), (3, xi (↑(a % b))), (2, xi (↑b)), (0, xi u), (1, xi w)] (fun i => by rcases i with _ | _ | _ | _ | _ | _ | _ | _ | _ | i <;> first | (right; rfl) | (left; rfl)) ?_
      exact h9
termination_by 64 - i
decreasing_by all_goals (omega)
theorem lp_mdv {sc : List Int} {m : xMem} {u w : Int} {a b : Nat} (ha : a < 1000000) (hb : b < 1000000) : x_Ex sc 0 xM_m_divisor 14 [(4, xi (↑b)), (3, xi (↑a)), (0, xr 143), (1, xi u), (2, xi w)] [] m (fun r m' => r = some (xi ((Nat.gcd b a : Nat) : Int)) ∧ m' = m) := by
  refine ex_st 1 (pc' := 16) (ls' := [(4, xi (↑b)), (3, xi (↑a)), (0, xr 143), (1, xi u), (2, xi w)]) (st' := [xi (↑b)]) rfl ?_
  refine ex_if rfl (by first | omega | (constructor <;> omega) | assumption | exact x_bR _) (fun (h0 : (↑b : Int) = 0) => ?_) (fun (h0 : ¬ (↑b : Int) = 0) => ?_)
  · refine ex_st 1 (pc' := 36) (ls' := [(4, xi (↑b)), (3, xi (↑a)), (0, xr 143), (1, xi u), (2, xi w)]) (st' := [xi (↑a)]) rfl ?_
    refine ex_reti rfl rfl ?_
    obtain rfl : b = 0 := by omega
    exact ⟨by rw [Nat.gcd_zero_left], rfl⟩
  · refine ex_st 2 (pc' := 22) (ls' := [(4, xi (↑b)), (3, xi (↑a)), (0, xr 143), (1, xi u), (2, xi w)]) (st' := [xi (↑b), xi (↑a)]) rfl ?_
    refine ex_irem rfl (by first | omega | (constructor <;> omega) | assumption | exact x_bR _) (by first | omega | (constructor <;> omega) | assumption | exact x_bR _) (by omega) ?_
    rw [show Int.tmod ((a : Nat) : Int) ((b : Nat) : Int) = ((a % b : Nat) : Int) from rfl]
    refine ex_st 6 (pc' := 14) (ls' := [(4, xi (↑(a % b))), (3, xi (↑b)), (5, xi (↑(a % b))), (0, xr 143), (1, xi u), (2, xi w)]) (st' := []) rfl ?_
    have h9 := lp_mdv (sc := sc) (m := m) (u := u) (w := w) (a := b) (b := a % b) (by omega) (by have := Nat.mod_lt a (show 0 < b by omega); omega)
    rw [show Nat.gcd b a = Nat.gcd (a % b) b from by rw [← Nat.gcd_rec]]
    refine ex_pm [(4, xi (↑(a % b))), (3, xi (↑b)), (0, xr 143), (1, xi u), (2, xi w)] (fun i => by rcases i with _ | _ | _ | _ | _ | _ | _ | _ | _ | i <;> first | (right; rfl) | (left; rfl)) ?_
    exact h9
termination_by b
decreasing_by all_goals (have := Nat.mod_lt a (show 0 < b by omega); omega)
theorem ct_G_commonDivisor {sc : List Int} {m : xMem} {a b : Nat} (ha : a < 1000000) (hb : b < 1024) : x_CE sc 1 xN_G_commonDivisor [xi (↑a), xi (↑b)] m (some (xi ((Nat.gcd b a : Nat) : Int))) m := by
  refine x_CE.of (M := xM_G_commonDivisor) rfl (Nat.le_of_ble_eq_true rfl) ?_
  refine ex_st 6 (pc' := 7) (ls' := [(4, xi 0), (3, xi (↑b)), (2, xi (↑a)), (0, xi (↑a)), (1, xi (↑b))]) (st' := []) rfl ?_
  rw [← sp_gs_more (n := 64 - 0) hb (by decide)]
  exact lp_Gcd ha (by omega) 0 (by decide)
theorem ex_abs {sc : List Int} {D : Nat} {M : xMt} {pc : Nat} {ls : xLc} {r : List xPV} {m : xMem} {Q : Option xPV → xMem → Prop} {i len b : Nat} {z x : Int} (he : x_lk M.2.2 pc = some (.invokestatic i, len, 904, b, z)) (hx : x_R x) (hs : (r.map x_cat).sum ≤ 8) (kk : x_Ex sc D M (pc + len) ls (xi (x.natAbs : Int) :: r) m Q) : x_Ex sc D M pc ls (xi x :: r) m Q := by
  have h : (if 0 ≤ x then x else 0 - x) = (x.natAbs : Int) := by split <;> omega
  rw [← h] at kk
  refine ex_sm he rfl ?_ kk
  simp only [x_sm, x_math, hx.wr]
  rw [if_pos (Or.inr (Or.inr trivial)), if_pos hs]
  rfl
/-- a part of the fraction in lowest terms -/
def sp_frac (x : Int) (b p : Nat) : Int64 := if p = 0 then z_i2l (x.tdiv ((Nat.gcd b x.natAbs : Nat) : Int)) else z_i2l (((b : Nat) : Int).tdiv ((Nat.gcd b x.natAbs : Nat) : Int))
theorem ct_m_divisor {sc : List Int} {m : xMem} {x : Int} (hx : -100000 ≤ x ∧ x ≤ 100000) {b : Nat} (hb : b < 1024) : x_CE sc 1 xN_m_divisor [xr 143, xi x, xi (↑b)] m (some (xi ((Nat.gcd b x.natAbs : Nat) : Int))) m := by
  refine x_CE.of (M := xM_m_divisor) rfl (Nat.le_of_ble_eq_true rfl) ?_
  refine ex_st 1 (pc' := 1) (ls' := [(0, xr 143), (1, xi x), (2, xi (↑b))]) (st' := [xi x]) rfl ?_
  refine ex_if rfl (by constructor <;> omega) (fun (h0 : (0 : Int) ≤ x) => ?_) (fun (h0 : ¬ (0 : Int) ≤ x) => ?_)
  · refine ex_st 1 (pc' := 10) (ls' := [(0, xr 143), (1, xi x), (2, xi (↑b))]) (st' := [xi x]) rfl ?_
    rw [show (xi x : xPV) = xi (x.natAbs : Int) by rw [show (x.natAbs : Int) = x by omega]]
    refine ex_st 3 (pc' := 14) (ls' := [(4, xi (↑b)), (3, xi (↑x.natAbs)), (0, xr 143), (1, xi (↑x.natAbs)), (2, xi (↑b))]) (st' := []) rfl ?_
    exact lp_mdv (by omega) (by omega)
  · refine ex_st 3 (pc' := 10) (ls' := [(0, xr 143), (1, xi x), (2, xi (↑b))]) (st' := [xi (-x)]) rfl ?_
    rw [show (xi (-x) : xPV) = xi (x.natAbs : Int) by rw [show (x.natAbs : Int) = -x by omega]]
    refine ex_st 3 (pc' := 14) (ls' := [(4, xi (↑b)), (3, xi (↑x.natAbs)), (0, xr 143), (1, xi x), (2, xi (↑b))]) (st' := []) rfl ?_
    exact lp_mdv (by omega) (by omega)
theorem ct_G_fraction0 {sc : List Int} {I : Nat → Nat → Int} {L : Nat → Nat → Int64} {x : Int} (hx : -100000 ≤ x ∧ x ≤ 100000) {b : Nat} (hb0 : 0 < b) (hb : b < 1024) : x_CE sc 2 xN_G_fraction [xi x, xi (↑b), xi 0] (xSH, I, L) (some (xl (sp_frac x b 0))) (xSH, I, L) := by
  refine x_CE.of (M := xM_G_fraction) rfl (Nat.le_of_ble_eq_true rfl) ?_
  refine ex_st 1 (pc' := 1) (ls' := [(0, xi x), (1, xi (↑b)), (2, xi 0)]) (st' := [xi (↑b)]) rfl ?_
  refine ex_if rfl (by first | omega | (constructor <;> omega) | assumption | exact x_bR _) (fun (h0 : ((0 : Int)) < (↑b : Int)) => ?_) (fun (h0 : ¬ ((0 : Int)) < (↑b : Int)) => ?_)
  · refine ex_st 1 (pc' := 9) (ls' := [(0, xi x), (1, xi (↑b)), (2, xi 0)]) (st' := [xi x]) rfl ?_
    refine ex_abs rfl (by first | omega | (constructor <;> omega) | assumption | exact x_bR _) (Nat.le_of_ble_eq_true rfl) ?_
    refine ex_st 1 (pc' := 13) (ls' := [(0, xi x), (1, xi (↑b)), (2, xi 0)]) (st' := [xi (↑b), xi (↑x.natAbs)]) rfl ?_
    have hgp : 0 < Nat.gcd b x.natAbs := Nat.gcd_pos_of_pos_left _ hb0
    have hgb : Nat.gcd b x.natAbs ≤ b := Nat.le_of_dvd hb0 (Nat.gcd_dvd_left _ _)
    have hcall := ct_G_commonDivisor (sc := sc) (m := (xSH, I, L)) (a := x.natAbs) (b := b) (by omega) hb
    generalize hg : Nat.gcd b x.natAbs = g at *
    refine ex_call hcall (by decide) rfl ⟨rfl, rfl, rfl⟩ ⟨Nat.le_of_ble_eq_true rfl, rfl, rfl⟩ (Nat.le_of_ble_eq_true rfl) rfl ?_
    refine ex_st 2 (pc' := 18) (ls' := [(3, xi (↑g)), (0, xi x), (1, xi (↑b)), (2, xi 0)]) (st' := [xi (↑g)]) rfl ?_
    refine ex_if rfl (by first | omega | (constructor <;> omega) | assumption | exact x_bR _) (fun (h1 : ((0 : Int)) < (↑g : Int)) => ?_) (fun (h1 : ¬ ((0 : Int)) < (↑g : Int)) => ?_)
    · refine ex_st 1 (pc' := 26) (ls' := [(3, xi (↑g)), (0, xi x), (1, xi (↑b)), (2, xi 0)]) (st' := [xi 0]) rfl ?_
      refine ex_st 1 (pc' := 29) (ls' := [(3, xi (↑g)), (0, xi x), (1, xi (↑b)), (2, xi 0)]) (st' := []) rfl ?_
      refine ex_st 2 (pc' := 31) (ls' := [(3, xi (↑g)), (0, xi x), (1, xi (↑b)), (2, xi 0)]) (st' := [xi (↑g), xi x]) rfl ?_
      refine ex_idiv rfl (by first | omega | (constructor <;> omega) | assumption | exact x_bR _) (by first | omega | (constructor <;> omega) | assumption | exact x_bR _) (by omega) ?_
      refine ex_st 2 (pc' := 40) (ls' := [(3, xi (↑g)), (0, xi x), (1, xi (↑b)), (2, xi 0)]) (st' := [xl (z_i2l (x.tdiv ((g : Nat) : Int)))]) rfl ?_
      refine ex_retl rfl rfl ?_
      exact ⟨by unfold sp_frac; rw [if_pos rfl, hg], rfl⟩
    · exfalso; omega
  · exfalso; omega
theorem ct_m_lowest0 {sc : List Int} {I : Nat → Nat → Int} {L : Nat → Nat → Int64} {x : Int} (hx : -100000 ≤ x ∧ x ≤ 100000) {b : Nat} (hb0 : 0 < b) (hb : b < 1024) : x_CE sc 2 xN_m_lowest [xr 143, xi x, xi (↑b), xi 0] (xSH, I, L) (some (xl (sp_frac x b 0))) (xSH, I, L) := by
  refine x_CE.of (M := xM_m_lowest) rfl (Nat.le_of_ble_eq_true rfl) ?_
  refine ex_st 3 (pc' := 3) (ls' := [(0, xr 143), (1, xi x), (2, xi (↑b)), (3, xi 0)]) (st' := [xi (↑b), xi x, xr 143]) rfl ?_
  have hgp : 0 < Nat.gcd b x.natAbs := Nat.gcd_pos_of_pos_left _ hb0
  have hgb : Nat.gcd b x.natAbs ≤ b := Nat.le_of_dvd hb0 (Nat.gcd_dvd_left _ _)
  have hcall := ct_m_divisor (sc := sc) (m := (xSH, I, L)) hx hb
  generalize hg : Nat.gcd b x.natAbs = g at *
  refine ex_call hcall (by decide) rfl ⟨rfl, rfl, rfl⟩ ⟨Nat.le_of_ble_eq_true rfl, rfl, rfl⟩ (Nat.le_of_ble_eq_true rfl) rfl ?_
  refine ex_st 2 (pc' := 9) (ls' := [(4, xi (↑g)), (0, xr 143), (1, xi x), (2, xi (↑b)), (3, xi 0)]) (st' := [xi 0]) rfl ?_
  refine ex_st 1 (pc' := 12) (ls' := [(4, xi (↑g)), (0, xr 143), (1, xi x), (2, xi (↑b)), (3, xi 0)]) (st' := []) rfl ?_
  refine ex_st 2 (pc' := 15) (ls' := [(4, xi (↑g)), (0, xr 143), (1, xi x), (2, xi (↑b)), (3, xi 0)]) (st' := [xi (↑g), xi x]) rfl ?_
  refine ex_idiv rfl (by first | omega | (constructor <;> omega) | assumption | exact x_bR _) (by first | omega | (constructor <;> omega) | assumption | exact x_bR _) (by omega) ?_
  refine ex_st 2 (pc' := 25) (ls' := [(4, xi (↑g)), (0, xr 143), (1, xi x), (2, xi (↑b)), (3, xi 0)]) (st' := [xl (z_i2l (x.tdiv ((g : Nat) : Int)))]) rfl ?_
  refine ex_retl rfl rfl ?_
  exact ⟨by unfold sp_frac; rw [if_pos rfl, hg], rfl⟩
theorem ct_G_fraction1 {sc : List Int} {I : Nat → Nat → Int} {L : Nat → Nat → Int64} {x : Int} (hx : -100000 ≤ x ∧ x ≤ 100000) {b : Nat} (hb0 : 0 < b) (hb : b < 1024) : x_CE sc 2 xN_G_fraction [xi x, xi (↑b), xi 1] (xSH, I, L) (some (xl (sp_frac x b 1))) (xSH, I, L) := by
  refine x_CE.of (M := xM_G_fraction) rfl (Nat.le_of_ble_eq_true rfl) ?_
  refine ex_st 1 (pc' := 1) (ls' := [(0, xi x), (1, xi (↑b)), (2, xi 1)]) (st' := [xi (↑b)]) rfl ?_
  refine ex_if rfl (by first | omega | (constructor <;> omega) | assumption | exact x_bR _) (fun (h0 : ((0 : Int)) < (↑b : Int)) => ?_) (fun (h0 : ¬ ((0 : Int)) < (↑b : Int)) => ?_)
  · refine ex_st 1 (pc' := 9) (ls' := [(0, xi x), (1, xi (↑b)), (2, xi 1)]) (st' := [xi x]) rfl ?_
    refine ex_abs rfl (by first | omega | (constructor <;> omega) | assumption | exact x_bR _) (Nat.le_of_ble_eq_true rfl) ?_
    refine ex_st 1 (pc' := 13) (ls' := [(0, xi x), (1, xi (↑b)), (2, xi 1)]) (st' := [xi (↑b), xi (↑x.natAbs)]) rfl ?_
    have hgp : 0 < Nat.gcd b x.natAbs := Nat.gcd_pos_of_pos_left _ hb0
    have hgb : Nat.gcd b x.natAbs ≤ b := Nat.le_of_dvd hb0 (Nat.gcd_dvd_left _ _)
    have hcall := ct_G_commonDivisor (sc := sc) (m := (xSH, I, L)) (a := x.natAbs) (b := b) (by omega) hb
    generalize hg : Nat.gcd b x.natAbs = g at *
    refine ex_call hcall (by decide) rfl ⟨rfl, rfl, rfl⟩ ⟨Nat.le_of_ble_eq_true rfl, rfl, rfl⟩ (Nat.le_of_ble_eq_true rfl) rfl ?_
    refine ex_st 2 (pc' := 18) (ls' := [(3, xi (↑g)), (0, xi x), (1, xi (↑b)), (2, xi 1)]) (st' := [xi (↑g)]) rfl ?_
    refine ex_if rfl (by first | omega | (constructor <;> omega) | assumption | exact x_bR _) (fun (h1 : ((0 : Int)) < (↑g : Int)) => ?_) (fun (h1 : ¬ ((0 : Int)) < (↑g : Int)) => ?_)
    · refine ex_st 1 (pc' := 26) (ls' := [(3, xi (↑g)), (0, xi x), (1, xi (↑b)), (2, xi 1)]) (st' := [xi 1]) rfl ?_
      refine ex_st 1 (pc' := 36) (ls' := [(3, xi (↑g)), (0, xi x), (1, xi (↑b)), (2, xi 1)]) (st' := []) rfl ?_
      refine ex_st 2 (pc' := 38) (ls' := [(3, xi (↑g)), (0, xi x), (1, xi (↑b)), (2, xi 1)]) (st' := [xi (↑g), xi (↑b)]) rfl ?_
      refine ex_idiv rfl (by first | omega | (constructor <;> omega) | assumption | exact x_bR _) (by first | omega | (constructor <;> omega) | assumption | exact x_bR _) (by omega) ?_
      refine ex_st 1 (pc' := 40) (ls' := [(3, xi (↑g)), (0, xi x), (1, xi (↑b)), (2, xi 1)]) (st' := [xl (z_i2l (((b : Nat) : Int).tdiv ((g : Nat) : Int)))]) rfl ?_
      refine ex_retl rfl rfl ?_
      exact ⟨by unfold sp_frac; rw [if_neg (by decide), hg], rfl⟩
    · exfalso; omega
  · exfalso; omega
theorem ct_m_lowest1 {sc : List Int} {I : Nat → Nat → Int} {L : Nat → Nat → Int64} {x : Int} (hx : -100000 ≤ x ∧ x ≤ 100000) {b : Nat} (hb0 : 0 < b) (hb : b < 1024) : x_CE sc 2 xN_m_lowest [xr 143, xi x, xi (↑b), xi 1] (xSH, I, L) (some (xl (sp_frac x b 1))) (xSH, I, L) := by
  refine x_CE.of (M := xM_m_lowest) rfl (Nat.le_of_ble_eq_true rfl) ?_
  refine ex_st 3 (pc' := 3) (ls' := [(0, xr 143), (1, xi x), (2, xi (↑b)), (3, xi 1)]) (st' := [xi (↑b), xi x, xr 143]) rfl ?_
  have hgp : 0 < Nat.gcd b x.natAbs := Nat.gcd_pos_of_pos_left _ hb0
  have hgb : Nat.gcd b x.natAbs ≤ b := Nat.le_of_dvd hb0 (Nat.gcd_dvd_left _ _)
  have hcall := ct_m_divisor (sc := sc) (m := (xSH, I, L)) hx hb
  generalize hg : Nat.gcd b x.natAbs = g at *
  refine ex_call hcall (by decide) rfl ⟨rfl, rfl, rfl⟩ ⟨Nat.le_of_ble_eq_true rfl, rfl, rfl⟩ (Nat.le_of_ble_eq_true rfl) rfl ?_
  refine ex_st 2 (pc' := 9) (ls' := [(4, xi (↑g)), (0, xr 143), (1, xi x), (2, xi (↑b)), (3, xi 1)]) (st' := [xi 1]) rfl ?_
  refine ex_st 1 (pc' := 20) (ls' := [(4, xi (↑g)), (0, xr 143), (1, xi x), (2, xi (↑b)), (3, xi 1)]) (st' := []) rfl ?_
  refine ex_st 2 (pc' := 23) (ls' := [(4, xi (↑g)), (0, xr 143), (1, xi x), (2, xi (↑b)), (3, xi 1)]) (st' := [xi (↑g), xi (↑b)]) rfl ?_
  refine ex_idiv rfl (by first | omega | (constructor <;> omega) | assumption | exact x_bR _) (by first | omega | (constructor <;> omega) | assumption | exact x_bR _) (by omega) ?_
  refine ex_st 1 (pc' := 25) (ls' := [(4, xi (↑g)), (0, xr 143), (1, xi x), (2, xi (↑b)), (3, xi 1)]) (st' := [xl (z_i2l (((b : Nat) : Int).tdiv ((g : Nat) : Int)))]) rfl ?_
  refine ex_retl rfl rfl ?_
  exact ⟨by unfold sp_frac; rw [if_neg (by decide), hg], rfl⟩
theorem ct_G_fractionN {sc : List Int} {I : Nat → Nat → Int} {L : Nat → Nat → Int64} {x p : Int} : x_CE sc 2 xN_G_fraction [xi x, xi 0, xi p] (xSH, I, L) (some (xl (Int64.ofInt (-9223372036854775808)))) (xSH, I, L) := by
  refine x_CE.of (M := xM_G_fraction) rfl (Nat.le_of_ble_eq_true rfl) ?_
  refine ex_st 1 (pc' := 1) (ls' := [(0, xi x), (1, xi 0), (2, xi p)]) (st' := [xi 0]) rfl ?_
  refine ex_st 1 (pc' := 4) (ls' := [(0, xi x), (1, xi 0), (2, xi p)]) (st' := []) rfl ?_
  refine ex_st 1 (pc' := 7) (ls' := [(0, xi x), (1, xi 0), (2, xi p)]) (st' := [xl (Int64.ofInt (-9223372036854775808))]) rfl ?_
  refine ex_retl rfl rfl ?_
  exact ⟨rfl, rfl⟩
