/-! the class's reader: the whole text -/
def p_q (n : Nat) (tx : Nat → Nat) : Nat → Nat
  | 0 => 0
  | z + 1 => (p_C n tx (p_q n tx z)).1 + 1
def p_A (n : Nat) (tx : Nat → Nat) : Nat → List Int
  | 0 => []
  | z + 1 => p_A n tx z ++ (p_C n tx (p_q n tx z)).2.1
def p_ks (n : Nat) (tx : Nat → Nat) (z : Nat) : Int := p_ck n tx (p_q n tx z)
def p_ns (n : Nat) (tx : Nat → Nat) (z : Nat) : Int := p_cn n tx (p_q n tx z)
/-- (where it stops, how many clauses, whether it is a treaty) -/
def p_out (n : Nat) (tx : Nat → Nat) : Nat → Nat → Nat × Nat × Bool
  | 0, z => (p_q n tx z, z, false)
  | f + 1, z => if (p_C n tx (p_q n tx z)).2.2 = true then (if (p_C n tx (p_q n tx z)).1 = n then (n, z + 1, true) else if f = 0 ∨ pg n tx (p_C n tx (p_q n tx z)).1 ≠ 59 then ((p_C n tx (p_q n tx z)).1, z + 1, false) else p_out n tx f (z + 1)) else ((p_C n tx (p_q n tx z)).1, z, false)
theorem p_C_q {n : Nat} {tx : Nat → Nat} {a : Nat} (h : p_ck n tx a = 2) : (p_C n tx a).2.1 = [] := by
  unfold p_C
  split
  · split
    · rfl
    · first | rfl | (rw [if_pos h]) | (split <;> first | rfl | omega)
  · rfl
/-- z clauses as the class keeps them -/
def CI (I : Nat → Nat → Int) (T n : Nat) (tx : Nat → Nat) (z : Nat) : Prop := I T 0 = sp_mq (p_ks n tx) (p_ns n tx) z ∧ I T 1 = ((sp_mc (p_ks n tx) z : Nat) : Int) ∧ ∀ y, y ≤ z → (sp_mc (p_ks n tx) y = 0 → (p_A n tx y).length = 0) ∧ (0 < sp_mc (p_ks n tx) y → I (T + 2) (sp_mc (p_ks n tx) y - 1) = (((p_A n tx y).length : Nat) : Int)) ∧ (y < z → p_ks n tx y ≠ 2 → I (T + 1) (sp_mc (p_ks n tx) y) = (if p_ks n tx y = 0 then p_ns n tx y else - p_ns n tx y) ∧ I (T + 2) (sp_mc (p_ks n tx) y) = (((p_A n tx (y + 1)).length : Nat) : Int))
theorem CI.zero {I : Nat → Nat → Int} {T n : Nat} {tx : Nat → Nat} (h0 : I T 0 = 0) (h1 : I T 1 = 0) : CI I T n tx 0 := by
  refine ⟨h0, h1, fun y hy => ?_⟩
  obtain rfl : y = 0 := by omega
  exact ⟨fun _ => rfl, fun q => absurd q (Nat.lt_irrefl 0), fun q => absurd q (Nat.lt_irrefl 0)⟩
theorem CI.step {I I' : Nat → Nat → Int} {L : Nat → Nat → Int64} {T n : Nat} {tx : Nat → Nat} {z : Nat} (h : CI I T n tx z)
    (hq : p_ks n tx z = 2 → I' T 0 = p_ns n tx z ∧ I' T 1 = I T 1 ∧ ∀ j, I' (T + 1) j = I (T + 1) j ∧ I' (T + 2) j = I (T + 2) j)
    (hn : p_ks n tx z ≠ 2 → I' T 0 = I T 0 ∧ I' T 1 = ((sp_mc (p_ks n tx) z + 1 : Nat) : Int) ∧ I' (T + 1) (sp_mc (p_ks n tx) z) = (if p_ks n tx z = 0 then p_ns n tx z else - p_ns n tx z) ∧ I' (T + 2) (sp_mc (p_ks n tx) z) = (((p_A n tx z ++ (p_C n tx (p_q n tx z)).2.1).length : Nat) : Int) ∧ ∀ j, j ≠ sp_mc (p_ks n tx) z → I' (T + 1) j = I (T + 1) j ∧ I' (T + 2) j = I (T + 2) j) : CI I' T n tx (z + 1) := by
  obtain ⟨h1, h2, h3⟩ := h
  by_cases hk : p_ks n tx z = 2
  · obtain ⟨q1, q2, q3⟩ := hq hk
    have em : sp_mc (p_ks n tx) (z + 1) = sp_mc (p_ks n tx) z := by simp only [sp_mc]; rw [if_pos hk]; rfl
    have eA : p_A n tx (z + 1) = p_A n tx z := by show p_A n tx z ++ _ = _; rw [p_C_q hk, List.append_nil]
    refine ⟨by simp only [sp_mq]; rw [if_pos hk]; exact q1, by rw [em, q2]; exact h2, fun y hy => ?_⟩
    by_cases hyz : y = z + 1
    · subst hyz
      obtain ⟨g1, g2, g3⟩ := h3 z (Nat.le_refl _)
      rw [em, eA]
      exact ⟨g1, fun q => by rw [(q3 _).2]; exact g2 q, fun q => absurd q (Nat.lt_irrefl _)⟩
    · obtain ⟨g1, g2, g3⟩ := h3 y (by omega)
      refine ⟨g1, fun q => by rw [(q3 _).2]; exact g2 q, fun q hy2 => ?_⟩
      have hyz2 : y ≠ z := fun e => hy2 (by rw [e]; exact hk)
      rw [(q3 _).1, (q3 _).2]
      exact g3 (by omega) hy2
  · obtain ⟨q1, q2, q3, q4, q5⟩ := hn hk
    have em : sp_mc (p_ks n tx) (z + 1) = sp_mc (p_ks n tx) z + 1 := by simp only [sp_mc]; rw [if_neg hk]
    refine ⟨by simp only [sp_mq]; rw [if_neg hk, q1]; exact h1, by rw [em, q2], fun y hy => ?_⟩
    by_cases hyz : y = z + 1
    · subst hyz
      rw [em]
      refine ⟨fun q => by omega, fun _ => ?_, fun q => absurd q (Nat.lt_irrefl _)⟩
      rw [Nat.add_sub_cancel]
      exact q4
    · obtain ⟨g1, g2, g3⟩ := h3 y (by omega)
      have hmo : sp_mc (p_ks n tx) y ≤ sp_mc (p_ks n tx) z := sp_mc_mono _ (by omega)
      refine ⟨g1, fun q => by rw [(q5 _ (by omega)).2]; exact g2 q, fun q hy2 => ?_⟩
      by_cases hyz2 : y = z
      · subst hyz2
        exact ⟨q3, q4⟩
      · have hlt : sp_mc (p_ks n tx) y < sp_mc (p_ks n tx) z := by
          have : sp_mc (p_ks n tx) (y + 1) ≤ sp_mc (p_ks n tx) z := sp_mc_mono _ (by omega)
          simp only [sp_mc] at this
          rw [if_neg hy2] at this
          omega
        rw [(q5 _ (by omega)).1, (q5 _ (by omega)).2]
        exact g3 (by omega) hy2
theorem lp_RI {sc : List Int} {L : Nat → Nat → Int64} {n : Nat} {tx : Nat → Nat} {T : Nat} (hTS : TS T) (hT4 : 104 ≤ T) {Q : Option xPV → xMem → Prop} (z : Nat) (hz : z < 10) (I : Nat → Nat → Int) (hT : TXc I n tx) (ha : I 85 2 = ((p_q n tx z : Nat) : Int)) (han : p_q n tx z ≤ n) (hC : CD I T (p_A n tx z)) (hl : (p_A n tx z).length ≤ p_q n tx z) (hCI : CI I T n tx z)
    (kk : ∀ I' : Nat → Nat → Int, (p_out n tx (10 - z) z).2.2 = true → CI I' T n tx (p_out n tx (10 - z) z).2.1 → CD I' T (p_A n tx (p_out n tx (10 - z) z).2.1) → FRt T I I' → Q (some (xi (-1))) (xSH, I', L))
    (kf : ∀ I' : Nat → Nat → Int, (p_out n tx (10 - z) z).2.2 = false → FRt T I I' → Q (some (xi (((p_out n tx (10 - z) z).1 : Nat) : Int))) (xSH, I', L)) :
    x_Ex sc 22 xM_R_readInto 11 [(2, xi (↑(z + 1))), (0, xr 85), (1, xr T)] [] (xSH, I, L) Q := by
  have hn := hT.2.1
  have hlt := hTS.2.2.2.2
  have hmc := sp_mc_le (p_ks n tx) z
  have hb := p_C_bd (n := n) (tx := tx) han
  have hb1 := hb.2.1
  have e : p_out n tx (10 - z) z = if (p_C n tx (p_q n tx z)).2.2 = true then (if (p_C n tx (p_q n tx z)).1 = n then (n, z + 1, true) else if 9 - z = 0 ∨ pg n tx (p_C n tx (p_q n tx z)).1 ≠ 59 then ((p_C n tx (p_q n tx z)).1, z + 1, false) else p_out n tx (9 - z) (z + 1)) else ((p_C n tx (p_q n tx z)).1, z, false) := by
    rw [show 10 - z = (9 - z) + 1 by omega]; rfl
  refine ex_st 2 (pc' := 14) (ls' := [(2, xi (↑(z + 1))), (0, xr 85), (1, xr T)]) (st' := [xi 10, xi (↑(z + 1))]) rfl ?_
  refine ex_ic rfl (by constructor <;> omega) (by decide) (fun (h0 : (10 : Int) < (↑(z + 1) : Int)) => ?_) (fun (h0 : ¬ (10 : Int) < (↑(z + 1) : Int)) => ?_)
  · exfalso; omega
  refine ex_st 2 (pc' := 19) (ls' := [(2, xi (↑(z + 1))), (0, xr 85), (1, xr T)]) (st' := [xr T, xr 85]) rfl ?_
  refine ex_callQ (ct_R_readClause (L := L) hT ha han hTS hT4 hC hl hCI.2.1 (by omega)) (by decide) rfl ⟨rfl, rfl, rfl⟩ ⟨Nat.le_of_ble_eq_true rfl, rfl, rfl⟩ (Nat.le_of_ble_eq_true rfl) rfl (fun ra m2 hQ => ?_)
  obtain ⟨rfl, I1, rfl, a1, f1, g1⟩ := hQ
  refine ex_bne rfl (fun h1 => ?_) (fun h1 => ?_)
  · rw [if_pos h1] at e
    obtain ⟨C1, gq, gn⟩ := g1 h1
    have hb2 := hb.2.2 h1
    have CI1 : CI I1 T n tx (z + 1) := hCI.step (L := L) gq gn
    have T1 : TXc I1 n tx := hT.fr (f1 _ _ (by omega)) (fun j => f1 _ _ (by omega))
    have hA : (p_A n tx (z + 1)).length = (p_A n tx z).length + (p_C n tx (p_q n tx z)).2.1.length := List.length_append
    have hq1 : p_q n tx (z + 1) = (p_C n tx (p_q n tx z)).1 + 1 := rfl
    refine ex_st 2 (pc' := 34) (ls' := [(2, xi (↑(z + 1))), (0, xr 85), (1, xr T)]) (st' := [xi (I1 85 2)]) rfl ?_
    rw [a1]
    refine ex_st 2 (pc' := 38) (ls' := [(2, xi (↑(z + 1))), (0, xr 85), (1, xr T)]) (st' := [xi (I1 85 1), xi (((p_C n tx (p_q n tx z)).1 : Nat) : Int)]) rfl ?_
    rw [T1.1]
    refine ex_ic rfl (by constructor <;> omega) (by constructor <;> omega) (fun (h2 : ¬ (((p_C n tx (p_q n tx z)).1 : Nat) : Int) = (n : Int)) => ?_) (fun (h2 : ¬ ¬ (((p_C n tx (p_q n tx z)).1 : Nat) : Int) = (n : Int)) => ?_)
    · rw [if_neg (by omega)] at e
      refine ex_st 2 (pc' := 46) (ls' := [(2, xi (↑(z + 1))), (0, xr 85), (1, xr T)]) (st' := [xi 10, xi (↑(z + 1))]) rfl ?_
      refine ex_ic rfl (by constructor <;> omega) (by decide) (fun (h3 : (↑(z + 1) : Int) = 10) => ?_) (fun (h3 : ¬ (↑(z + 1) : Int) = 10) => ?_)
      · rw [if_pos (Or.inl (by omega))] at e
        refine ex_st 2 (pc' := 62) (ls' := [(2, xi (↑(z + 1))), (0, xr 85), (1, xr T)]) (st' := [xi (I1 85 2)]) rfl ?_
        rw [a1]
        refine ex_reti rfl rfl ?_
        have := kf I1 (by rw [e]) f1
        rw [e] at this
        exact this
      · refine ex_st 2 (pc' := 52) (ls' := [(2, xi (↑(z + 1))), (0, xr 85), (1, xr T)]) (st' := [xi 59, xr 85]) rfl ?_
        by_cases h4 : pg n tx (p_C n tx (p_q n tx z)).1 = 59
        · have hag := pg_lt (n := n) (tx := tx) (a := (p_C n tx (p_q n tx z)).1) (by omega)
          rw [if_neg (by intro q; rcases q with q | q; omega; exact q h4)] at e
          refine ex_callQ (ct_R_skip_y (L := L) T1 a1 hb1 (c := 59) (by decide) h4) (by decide) rfl ⟨rfl, rfl, rfl⟩ ⟨Nat.le_of_ble_eq_true rfl, rfl, rfl⟩ (Nat.le_of_ble_eq_true rfl) rfl (fun ra m2 hQ => ?_)
          obtain ⟨rfl, I2, rfl, a2, f2⟩ := hQ
          refine ex_st 1 (pc' := 63) (ls' := [(2, xi (↑(z + 1))), (0, xr 85), (1, xr T)]) (st' := []) rfl ?_
          refine ex_st 2 (pc' := 11) (ls' := [(2, xi (↑(z + 1) + 1)), (0, xr 85), (1, xr T)]) (st' := []) rfl ?_
          have f12 : FRt T I I2 := fun k j hk => by rw [f2 k j (by omega), f1 k j hk]
          have T2 : TXc I2 n tx := hT.fr (f12 _ _ (by omega)) (fun j => f12 _ _ (by omega))
          have CI2 : CI I2 T n tx (z + 1) := by
            obtain ⟨k1, k2, k3⟩ := CI1
            refine ⟨by rw [f2 _ _ (by omega)]; exact k1, by rw [f2 _ _ (by omega)]; exact k2, fun y hy => ?_⟩
            rw [f2 _ _ (by omega), f2 _ _ (by omega), f2 _ _ (by omega)]
            exact k3 y hy
          refine lp_RI hTS hT4 (z + 1) (by omega) I2 T2 a2 hag (C1.fr (f2 _ _ (by omega)) (fun j => f2 _ _ (by omega))) (by omega) CI2 (fun I' q1 q2 q3 q4 => ?_) (fun I' q1 q2 => ?_)
          · rw [show 10 - (z + 1) = 9 - z by omega, ← e] at q1 q2 q3
            exact kk I' q1 q2 q3 (fun k j hk => by rw [q4 k j hk, f12 k j hk])
          · rw [show 10 - (z + 1) = 9 - z by omega, ← e] at q1 ⊢
            exact kf I' q1 (fun k j hk => by rw [q2 k j hk, f12 k j hk])
        · rw [if_pos (Or.inr h4)] at e
          refine ex_call (ct_R_skip_n (L := L) T1 a1 hb1 (c := 59) (by decide) h4) (by decide) rfl ⟨rfl, rfl, rfl⟩ ⟨Nat.le_of_ble_eq_true rfl, rfl, rfl⟩ (Nat.le_of_ble_eq_true rfl) rfl ?_
          refine ex_st 1 (pc' := 58) (ls' := [(2, xi (↑(z + 1))), (0, xr 85), (1, xr T)]) (st' := []) rfl ?_
          refine ex_st 2 (pc' := 62) (ls' := [(2, xi (↑(z + 1))), (0, xr 85), (1, xr T)]) (st' := [xi (I1 85 2)]) rfl ?_
          rw [a1]
          refine ex_reti rfl rfl ?_
          have := kf I1 (by rw [e]) f1
          rw [e] at this
          exact this
    · rw [if_pos (by omega)] at e
      refine ex_st 1 (pc' := 42) (ls' := [(2, xi (↑(z + 1))), (0, xr 85), (1, xr T)]) (st' := [xi (-1)]) rfl ?_
      refine ex_reti rfl rfl ?_
      exact kk I1 (by rw [e]) (by rw [e]; exact CI1) (by rw [e]; exact C1) f1
  · rw [if_neg h1] at e
    refine ex_st 2 (pc' := 29) (ls' := [(2, xi (↑(z + 1))), (0, xr 85), (1, xr T)]) (st' := [xi (I1 85 2)]) rfl ?_
    rw [a1]
    refine ex_reti rfl rfl ?_
    have := kf I1 (by rw [e]) f1
    rw [e] at this
    exact this
termination_by 10 - z
decreasing_by all_goals omega
theorem ct_R_readInto {sc : List Int} {I : Nat → Nat → Int} {L : Nat → Nat → Int64} {n : Nat} {tx : Nat → Nat} (hT : TXc I n tx) {T : Nat} (hTS : TS T) (hT4 : 104 ≤ T) : x_CQ sc 23 xN_R_readInto [xr 85, xr T] (xSH, I, L) (fun r m' => ∃ I', m' = (xSH, I', L) ∧ FRt T I I' ∧ ((p_out n tx 10 0).2.2 = true → r = some (xi (-1)) ∧ CI I' T n tx (p_out n tx 10 0).2.1 ∧ CD I' T (p_A n tx (p_out n tx 10 0).2.1)) ∧ ((p_out n tx 10 0).2.2 = false → r = some (xi (((p_out n tx 10 0).1 : Nat) : Int)))) := by
  have hlt := hTS.2.2.2.2
  refine x_CQ.of (M := xM_R_readInto) rfl (Nat.le_of_ble_eq_true rfl) ?_
  refine ex_st 1 (pc' := 1) (ls' := [(0, xr 85), (1, xr T)]) (st' := [xr T]) rfl ?_
  refine ex_call (ct_Tr_clear (L := L) hTS) (by decide) rfl ⟨rfl, rfl, rfl⟩ ⟨Nat.le_of_ble_eq_true rfl, rfl, rfl⟩ (Nat.le_of_ble_eq_true rfl) (x_recv_v (by omega) hTS.1 (by decide)) ?_
  refine ex_st 2 (pc' := 6) (ls' := [(0, xr 85), (1, xr T)]) (st' := [xi 0, xr 85]) rfl ?_
  refine ex_pfi rfl (by decide) (rfl : xSH[85]? = some _) (by decide) rfl (by decide) (fun h => by cases h) ?_
  generalize hM : x_up (x_up (x_up (x_up I T 0 0) T 1 0) T 5 0) 85 2 0 = I1
  have v2 : I1 85 2 = 0 := by rw [← hM, x_up_at]
  have v0 : I1 T 0 = 0 := by rw [← hM, x_up_far (by omega), x_up_far (by omega), x_up_far (by omega), x_up_at]
  have v1 : I1 T 1 = 0 := by rw [← hM, x_up_far (by omega), x_up_far (by omega), x_up_at]
  have v5 : I1 T 5 = 0 := by rw [← hM, x_up_far (by omega), x_up_at]
  have f1 : FRt T I I1 := fun k j hk => by rw [← hM, x_up_far (by omega), x_up_far (by omega), x_up_far (by omega), x_up_far (by omega)]
  refine ex_st 2 (pc' := 11) (ls' := [(2, xi 1), (0, xr 85), (1, xr T)]) (st' := []) rfl ?_
  have T1 : TXc I1 n tx := hT.fr (f1 _ _ (by omega)) (fun j => f1 _ _ (by omega))
  refine lp_RI hTS hT4 0 (by decide) I1 T1 v2 (Nat.zero_le _) ⟨v5, fun j hj => absurd hj (Nat.not_lt_zero _)⟩ (Nat.le_refl _) (CI.zero v0 v1) (fun I' q1 q2 q3 q4 => ?_) (fun I' q1 q2 => ?_)
  · have q1' : (p_out n tx 10 0).2.2 = true := q1
    exact ⟨I', rfl, fun k j hk => by rw [q4 k j hk, f1 k j hk], fun _ => ⟨rfl, q2, q3⟩, (fun q => by rw [q1'] at q; cases q)⟩
  · have q1' : (p_out n tx 10 0).2.2 = false := q1
    exact ⟨I', rfl, fun k j hk => by rw [q2 k j hk, f1 k j hk], (fun q => by rw [q1'] at q; cases q), fun _ => rfl⟩
theorem p_out_at {n : Nat} {tx : Nat → Nat} : ∀ f z, p_q n tx z ≤ n → (p_out n tx f z).1 ≤ n ∧ (p_out n tx f z).2.1 ≤ z + f
  | 0, z, h => ⟨h, Nat.le_refl _⟩
  | f + 1, z, h => by
    have hb := p_C_bd (n := n) (tx := tx) h
    simp only [p_out]
    split
    · split
      · exact ⟨Nat.le_refl _, by show z + 1 ≤ _; omega⟩
      · split
        · exact ⟨hb.2.1, by show z + 1 ≤ _; omega⟩
        · next h3 =>
          have hag := pg_lt (n := n) (tx := tx) (a := (p_C n tx (p_q n tx z)).1) (by omega)
          have ih := p_out_at (n := n) (tx := tx) f (z + 1) hag
          omega
    · exact ⟨hb.2.1, by show z ≤ _; omega⟩
theorem ct_G_treaty {sc : List Int} {I : Nat → Nat → Int} {L : Nat → Nat → Int64} {n : Nat} {tx : Nat → Nat} (hT : TXc I n tx) {f : Nat} (hf : I 0 7 = (f : Int)) (hf6 : f < 6) : x_CQ sc 30 xN_G_treaty [xr 0] (xSH, I, L) (fun r m' => ∃ I', m' = (xSH, I', L) ∧ I' 85 1 = 0 ∧ ((p_out n tx 10 0).2.2 = false → r = some (xi (-10 - (((p_out n tx 10 0).1 : Nat) : Int))) ∧ ∀ k j, ¬ ((k = 85 ∧ (j = 1 ∨ j = 2)) ∨ (107 + 4 * f ≤ k ∧ k ≤ 107 + 4 * f + 3)) → I' k j = I k j) ∧ ((p_out n tx 10 0).2.2 = true → r = some (xi (↑f)) ∧ I' 1 7 = (f : Int) ∧ I' 0 7 = ((f + 1 : Nat) : Int) ∧ CI I' (107 + 4 * f) n tx (p_out n tx 10 0).2.1 ∧ CD I' (107 + 4 * f) (p_A n tx (p_out n tx 10 0).2.1) ∧ ∀ k j, ¬ ((k = 85 ∧ (j = 1 ∨ j = 2)) ∨ (107 + 4 * f ≤ k ∧ k ≤ 107 + 4 * f + 3) ∨ (k = 1 ∧ j = 7) ∨ (k = 0 ∧ j = 7)) → I' k j = I k j)) := by
  have hTS := TS.mk f hf6
  have hn := hT.2.1
  have hoa := p_out_at (n := n) (tx := tx) 10 0 (Nat.zero_le _)
  refine x_CQ.of (M := xM_G_treaty) rfl (Nat.le_of_ble_eq_true rfl) ?_
  refine ex_st 3 (pc' := 6) (ls' := [(0, xr 0)]) (st' := [xi 6, xi (I 0 7)]) rfl ?_
  rw [hf]
  refine ex_ic rfl (by constructor <;> omega) (by decide) (fun (h0 : (↑f : Int) < 6) => ?_) (fun (h0 : ¬ (↑f : Int) < 6) => by exfalso; omega)
  refine ex_st 6 (pc' := 24) (ls' := [(0, xr 0)]) (st' := [xi (I 0 7), xr 91, xr 85]) rfl ?_
  rw [hf]
  refine ex_aald (q := 107 + 4 * f) (j := f) rfl (by decide) (rfl : xSH[91]? = some _) (by decide) rfl (by omega) (by decide) (x_aa91 hf6) (by omega) ?_
  refine ex_callQ (ct_R_readInto (L := L) hT hTS (by omega)) (by decide) rfl ⟨rfl, rfl, rfl⟩ ⟨Nat.le_of_ble_eq_true rfl, rfl, rfl⟩ (Nat.le_of_ble_eq_true rfl) rfl (fun ra m2 hQ => ?_)
  obtain ⟨I1, rfl, f1, gT, gF⟩ := hQ
  by_cases h1 : (p_out n tx 10 0).2.2 = true
  · obtain ⟨rfl, c1, c2⟩ := gT h1
    refine ex_st 4 (pc' := 34) (ls' := [(1, xi (-1)), (0, xr 0)]) (st' := [xi 0, xr 85]) rfl ?_
    refine ex_pfi rfl (by decide) (rfl : xSH[85]? = some _) (by decide) rfl (by decide) (fun h => by cases h) ?_
    refine ex_st 2 (pc' := 39) (ls' := [(1, xi (-1)), (0, xr 0)]) (st' := [xi (-1), xi (-1)]) rfl ?_
    refine ex_st 1 (pc' := 47) (ls' := [(1, xi (-1)), (0, xr 0)]) (st' := []) rfl ?_
    refine ex_st 4 (pc' := 55) (ls' := [(1, xi (-1)), (0, xr 0)]) (st' := [xi ((x_up I1 85 1 0) 0 7), xr 1]) rfl ?_
    rw [x_up_far (k := 0) (j := 7) (k0 := 85) (j0 := 1) (by decide), f1 0 7 (by omega), hf]
    refine ex_pfi rfl (by decide) (rfl : xSH[1]? = some _) (by decide) rfl (by decide) (fun h => by cases h) ?_
    refine ex_st 3 (pc' := 63) (ls' := [(1, xi (-1)), (0, xr 0)]) (st' := [xi ((x_up (x_up I1 85 1 0) 1 7 (↑f)) 0 7), xr 0]) rfl ?_
    rw [x_up_far (k := 0) (j := 7) (k0 := 1) (j0 := 7) (by decide), x_up_far (k := 0) (j := 7) (k0 := 85) (j0 := 1) (by decide), f1 0 7 (by omega), hf]
    refine ex_st 2 (pc' := 65) (ls' := [(1, xi (-1)), (0, xr 0)]) (st' := [xi (↑f + 1), xr 0]) rfl ?_
    refine ex_pfi rfl (by decide) (rfl : xSH[0]? = some _) (by decide) rfl (by decide) (fun h => by cases h) ?_
    refine ex_st 3 (pc' := 75) (ls' := [(1, xi (-1)), (0, xr 0)]) (st' := [xi ((x_up (x_up (x_up I1 85 1 0) 1 7 (↑f)) 0 7 (↑f + 1)) 1 7)]) rfl ?_
    rw [x_up_far (k := 1) (j := 7) (k0 := 0) (j0 := 7) (by decide), x_up_at]
    refine ex_reti rfl rfl ?_
    generalize hM : x_up (x_up (x_up I1 85 1 0) 1 7 (↑f)) 0 7 (↑f + 1) = I2
    have hK : ∀ k j, ¬ ((k = 85 ∧ j = 1) ∨ (k = 1 ∧ j = 7) ∨ (k = 0 ∧ j = 7)) → I2 k j = I1 k j := fun k j hk => by rw [← hM, x_up_far (by omega), x_up_far (by omega), x_up_far (by omega)]
    refine ⟨I2, rfl, by rw [← hM, x_up_far (by decide), x_up_far (by decide), x_up_at], (fun q => by rw [h1] at q; cases q), fun _ => ⟨rfl, by rw [← hM, x_up_far (by decide), x_up_at], by rw [← hM, x_up_at]; rfl, ?_, c2.fr (hK _ _ (by omega)) (fun j => hK _ _ (by omega)), fun k j hk => by rw [hK k j (by omega), f1 k j (by omega)]⟩⟩
    obtain ⟨k1, k2, k3⟩ := c1
    refine ⟨by rw [hK _ _ (by omega)]; exact k1, by rw [hK _ _ (by omega)]; exact k2, fun y hy => ?_⟩
    rw [hK _ _ (by omega), hK _ _ (by omega), hK _ _ (by omega)]
    exact k3 y hy
  · have h1' : (p_out n tx 10 0).2.2 = false := by simpa using h1
    obtain rfl := gF h1'
    have hoa1 := hoa.1
    refine ex_st 4 (pc' := 34) (ls' := [(1, xi (((p_out n tx 10 0).1 : Nat) : Int)), (0, xr 0)]) (st' := [xi 0, xr 85]) rfl ?_
    refine ex_pfi rfl (by decide) (rfl : xSH[85]? = some _) (by decide) rfl (by decide) (fun h => by cases h) ?_
    refine ex_st 2 (pc' := 39) (ls' := [(1, xi (((p_out n tx 10 0).1 : Nat) : Int)), (0, xr 0)]) (st' := [xi (-1), xi (((p_out n tx 10 0).1 : Nat) : Int)]) rfl ?_
    refine ex_ic rfl (by constructor <;> omega) (by decide) (fun (h2 : (((p_out n tx 10 0).1 : Nat) : Int) = -1) => by exfalso; omega) (fun (h2 : ¬ (((p_out n tx 10 0).1 : Nat) : Int) = -1) => ?_)
    refine ex_st 3 (pc' := 46) (ls' := [(1, xi (((p_out n tx 10 0).1 : Nat) : Int)), (0, xr 0)]) (st' := [xi (-10 - (((p_out n tx 10 0).1 : Nat) : Int))]) rfl ?_
    refine ex_reti rfl rfl ?_
    refine ⟨_, rfl, by rw [x_up_at], fun _ => ⟨rfl, fun k j hk => by rw [x_up_far (by omega), f1 k j (by omega)]⟩, (fun q => by rw [h1'] at q; cases q)⟩

