/-! the reference's reader: clauses, the text -/
theorem ct_m_takesHead {sc : List Int} {I : Nat → Nat → Int} {L : Nat → Nat → Int64} {n : Nat} {tx : Nat → Nat} (hT : TXm I n tx) {a : Nat} (ha : I 143 15 = (a : Int)) (han : a ≤ n) (hL : LTs I) {c : Nat} (hc : c < 60) : x_CQ sc 6 xN_m_takesHead [xr 143, xi (↑c)] (xSH, I, L) (fun r m' => r = some (xi (x_b ((p_w n tx (wd (p_ck n tx a)) a).2 = true))) ∧ ∃ I', m' = (xSH, I', L) ∧ I' 143 15 = ((p_cb n tx a : Nat) : Int) ∧ I' 153 c = p_ck n tx a ∧ ∀ k j, ¬ ((k = 143 ∧ j = 15) ∨ (k = 153 ∧ j = c)) → I' k j = I k j) := by
  have hn := hT.2.1
  have h128 := hT.lt a
  have h129 := hT.lt (a + 1)
  have p0 := pn_pg n tx a
  have p1 := pn_pg n tx (a + 1)
  refine x_CQ.of (M := xM_m_takesHead) rfl (Nat.le_of_ble_eq_true rfl) ?_
  refine ex_st 1 (pc' := 1) (ls' := [(0, xr 143), (1, xi (↑c))]) (st' := [xr 143]) rfl ?_
  refine ex_call (ct_m_next (L := L) hT ha han) (by decide) rfl ⟨rfl, rfl, rfl⟩ ⟨Nat.le_of_ble_eq_true rfl, rfl, rfl⟩ (Nat.le_of_ble_eq_true rfl) rfl ?_
  refine ex_st 1 (pc' := 6) (ls' := [(0, xr 143), (1, xi (↑c))]) (st' := [xi 113, xi (pn n tx a)]) rfl ?_
  refine ex_ic rfl (by constructor <;> omega) (by decide) (fun (h0 : ¬ pn n tx a = 113) => ?_) (fun (h0 : ¬ ¬ pn n tx a = 113) => ?_)
  · have hpk : p_ck n tx a = (if pg n tx (a + 1) = 111 then 1 else 0) := by unfold p_ck; rw [if_neg (by omega)]
    refine ex_st 4 (pc' := 30) (ls' := [(0, xr 143), (1, xi (↑c))]) (st' := [xr 143, xi (↑c), xr 153]) rfl ?_
    refine ex_call (ct_m_second (L := L) hT ha han) (by decide) rfl ⟨rfl, rfl, rfl⟩ ⟨Nat.le_of_ble_eq_true rfl, rfl, rfl⟩ (Nat.le_of_ble_eq_true rfl) rfl ?_
    refine ex_st 1 (pc' := 35) (ls' := [(0, xr 143), (1, xi (↑c))]) (st' := [xi 111, xi (pn n tx (a + 1)), xi (↑c), xr 153]) rfl ?_
    refine ex_ic rfl (by constructor <;> omega) (by decide) (fun (h1 : ¬ pn n tx (a + 1) = 111) => ?_) (fun (h1 : ¬ ¬ pn n tx (a + 1) = 111) => ?_)
    · have hk : p_ck n tx a = 0 := by rw [hpk, if_neg (by omega)]
      have hwd : wd (p_ck n tx a) = [108, 105, 107, 101, 32] := by rw [hk]; rfl
      refine ex_st 1 (pc' := 43) (ls' := [(0, xr 143), (1, xi (↑c))]) (st' := [xi 0, xi (↑c), xr 153]) rfl ?_
      refine ex_iast (j := c) rfl (by decide) (rfl : xSH[153]? = some _) rfl (by omega) (by decide) ?_
      generalize hM : x_up I 153 c 0 = I1
      have g1 : ∀ k j, ¬ (k = 153 ∧ j = c) → I1 k j = I k j := fun k j hk => by rw [← hM, x_up_far hk]
      have v1 : I1 153 c = 0 := by rw [← hM, x_up_at]
      have hct := ct_m_takesWord1010 (sc := sc) (L := L) (hT.fr (I' := I1) (g1 _ _ (by omega)) (fun j => g1 _ _ (by omega))) (show I1 143 15 = (a : Int) by rw [g1 _ _ (by omega)]; exact ha) han (fun x hx => by rw [g1 _ _ (by omega)]; exact hL x hx)
      rw [← hwd] at hct
      refine ex_st 3 (pc' := 49) (ls' := [(0, xr 143), (1, xi (↑c))]) (st' := [xi (↑c), xr 153]) rfl ?_
      refine ex_iald (j := c) rfl (by decide) (rfl : xSH[153]? = some _) rfl (by omega) (by decide) ?_
      rw [v1]
      refine ex_st 1 (pc' := 51) (ls' := [(0, xr 143), (1, xi (↑c))]) (st' := [xi 1, xi 0]) rfl ?_
      refine ex_st 1 (pc' := 64) (ls' := [(0, xr 143), (1, xi (↑c))]) (st' := []) rfl ?_
      refine ex_st 3 (pc' := 67) (ls' := [(0, xr 143), (1, xi (↑c))]) (st' := [xi 4, xi 0, xr 143]) rfl ?_
      refine ex_callQ hct (by decide) rfl ⟨rfl, rfl, rfl⟩ ⟨Nat.le_of_ble_eq_true rfl, rfl, rfl⟩ (Nat.le_of_ble_eq_true rfl) rfl (fun ra m2 hQ => ?_)
      obtain ⟨rfl, I2, rfl, a2, f2⟩ := hQ
      refine ex_retz rfl (x_b01 _) rfl ?_
      exact ⟨rfl, I2, rfl, a2, by rw [f2 _ _ (by omega), v1, hk], fun k j hk => by rw [f2 k j (by omega), g1 k j (by omega)]⟩
    · have hk : p_ck n tx a = 1 := by rw [hpk, if_pos (by omega)]
      have hwd : wd (p_ck n tx a) = [108, 111, 97, 116, 104, 101, 32] := by rw [hk]; rfl
      refine ex_st 2 (pc' := 43) (ls' := [(0, xr 143), (1, xi (↑c))]) (st' := [xi 1, xi (↑c), xr 153]) rfl ?_
      refine ex_iast (j := c) rfl (by decide) (rfl : xSH[153]? = some _) rfl (by omega) (by decide) ?_
      generalize hM : x_up I 153 c 1 = I1
      have g1 : ∀ k j, ¬ (k = 153 ∧ j = c) → I1 k j = I k j := fun k j hk => by rw [← hM, x_up_far hk]
      have v1 : I1 153 c = 1 := by rw [← hM, x_up_at]
      have hct := ct_m_takesWord1011 (sc := sc) (L := L) (hT.fr (I' := I1) (g1 _ _ (by omega)) (fun j => g1 _ _ (by omega))) (show I1 143 15 = (a : Int) by rw [g1 _ _ (by omega)]; exact ha) han (fun x hx => by rw [g1 _ _ (by omega)]; exact hL x hx)
      rw [← hwd] at hct
      refine ex_st 3 (pc' := 49) (ls' := [(0, xr 143), (1, xi (↑c))]) (st' := [xi (↑c), xr 153]) rfl ?_
      refine ex_iald (j := c) rfl (by decide) (rfl : xSH[153]? = some _) rfl (by omega) (by decide) ?_
      rw [v1]
      refine ex_st 1 (pc' := 51) (ls' := [(0, xr 143), (1, xi (↑c))]) (st' := [xi 1, xi 1]) rfl ?_
      refine ex_st 1 (pc' := 54) (ls' := [(0, xr 143), (1, xi (↑c))]) (st' := []) rfl ?_
      refine ex_st 3 (pc' := 58) (ls' := [(0, xr 143), (1, xi (↑c))]) (st' := [xi 6, xi 4, xr 143]) rfl ?_
      refine ex_callQ hct (by decide) rfl ⟨rfl, rfl, rfl⟩ ⟨Nat.le_of_ble_eq_true rfl, rfl, rfl⟩ (Nat.le_of_ble_eq_true rfl) rfl (fun ra m2 hQ => ?_)
      obtain ⟨rfl, I2, rfl, a2, f2⟩ := hQ
      refine ex_st 1 (pc' := 70) (ls' := [(0, xr 143), (1, xi (↑c))]) (st' := [xi (x_b ((p_w n tx (wd (p_ck n tx a)) a).2 = true))]) rfl ?_
      refine ex_retz rfl (x_b01 _) rfl ?_
      exact ⟨rfl, I2, rfl, a2, by rw [f2 _ _ (by omega), v1, hk], fun k j hk => by rw [f2 k j (by omega), g1 k j (by omega)]⟩
  · have hk : p_ck n tx a = 2 := by unfold p_ck; rw [if_pos (by omega)]
    have hwd : wd (p_ck n tx a) = [113, 117, 111, 116, 97, 32] := by rw [hk]; rfl
    refine ex_st 4 (pc' := 15) (ls' := [(0, xr 143), (1, xi (↑c))]) (st' := [xi 2, xi (↑c), xr 153]) rfl ?_
    refine ex_iast (j := c) rfl (by decide) (rfl : xSH[153]? = some _) rfl (by omega) (by decide) ?_
    generalize hM : x_up I 153 c 2 = I1
    have g1 : ∀ k j, ¬ (k = 153 ∧ j = c) → I1 k j = I k j := fun k j hk => by rw [← hM, x_up_far hk]
    have v1 : I1 153 c = 2 := by rw [← hM, x_up_at]
    have hct := ct_m_takesWord1012 (sc := sc) (L := L) (hT.fr (I' := I1) (g1 _ _ (by omega)) (fun j => g1 _ _ (by omega))) (show I1 143 15 = (a : Int) by rw [g1 _ _ (by omega)]; exact ha) han (fun x hx => by rw [g1 _ _ (by omega)]; exact hL x hx)
    rw [← hwd] at hct
    refine ex_st 3 (pc' := 20) (ls' := [(0, xr 143), (1, xi (↑c))]) (st' := [xi 5, xi 10, xr 143]) rfl ?_
    refine ex_callQ hct (by decide) rfl ⟨rfl, rfl, rfl⟩ ⟨Nat.le_of_ble_eq_true rfl, rfl, rfl⟩ (Nat.le_of_ble_eq_true rfl) rfl (fun ra m2 hQ => ?_)
    obtain ⟨rfl, I2, rfl, a2, f2⟩ := hQ
    refine ex_retz rfl (x_b01 _) rfl ?_
    exact ⟨rfl, I2, rfl, a2, by rw [f2 _ _ (by omega), v1, hk], fun k j hk => by rw [f2 k j (by omega), g1 k j (by omega)]⟩
theorem p_ck_bd (n : Nat) (tx : Nat → Nat) (a : Nat) : p_ck n tx a = 0 ∨ p_ck n tx a = 1 ∨ p_ck n tx a = 2 := by
  unfold p_ck
  repeat' split
  all_goals omega
def FRk (b c : Nat) (I I' : Nat → Nat → Int) : Prop := ∀ k j, ¬ ((k = 143 ∧ (j = 15 ∨ j = 16 ∨ j = 25 ∨ j = 26 ∨ j = 27)) ∨ (k = 157 ∧ b ≤ j ∧ j < b + 100) ∨ k = 158 ∨ (153 ≤ k ∧ k ≤ 156 ∧ j = c)) → I' k j = I k j
theorem ct_m_takesClause {sc : List Int} {I : Nat → Nat → Int} {L : Nat → Nat → Int64} {n : Nat} {tx : Nat → Nat} (hT : TXm I n tx) {a b c : Nat} (ha : I 143 15 = (a : Int)) (han : a ≤ n) (hL : LTs I) (hc : c < 60) {rc : List Int} (hC : RDm I b rc) (hb : b ≤ 500) (hl : rc.length ≤ a) : x_CQ sc 10 xN_m_takesClause [xr 143, xi (↑c)] (xSH, I, L) (fun r m' => r = some (xi (x_b ((p_C n tx a).2.2 = true))) ∧ ∃ I', m' = (xSH, I', L) ∧ I' 143 15 = (((p_C n tx a).1 : Nat) : Int) ∧ FRk b c I I' ∧ ((p_C n tx a).2.2 = true → I' 153 c = p_ck n tx a ∧ I' 154 c = p_cn n tx a ∧ RDm I' b (rc ++ (p_C n tx a).2.1.map mcd) ∧ (p_ck n tx a ≠ 2 → I' 155 c = ((b + rc.length : Nat) : Int) ∧ I' 156 c = ((b + (rc ++ (p_C n tx a).2.1.map mcd).length : Nat) : Int)))) := by
  have hn := hT.2.1
  have hw := p_w_bd (tx := tx) (wd (p_ck n tx a)) a han (wd_nz _)
  have hcb : a ≤ p_cb n tx a ∧ p_cb n tx a ≤ n := hw
  have hna := p_na_bd (tx := tx) hcb.2
  have hnb := p_nm_bd n tx (p_cb n tx a)
  have hkb := p_ck_bd n tx a
  have fail : ∀ (d : Nat) (I1 : Nat → Nat → Int), p_C n tx a = (d, [], false) → I1 143 15 = (d : Int) → FRk b c I I1 → x_Ex sc 9 xM_m_takesClause 59 [(0, xr 143), (1, xi (↑c))] [xi 0] (xSH, I1, L) (fun r m' => r = some (xi (x_b ((p_C n tx a).2.2 = true))) ∧ ∃ I', m' = (xSH, I', L) ∧ I' 143 15 = (((p_C n tx a).1 : Nat) : Int) ∧ FRk b c I I' ∧ ((p_C n tx a).2.2 = true → I' 153 c = p_ck n tx a ∧ I' 154 c = p_cn n tx a ∧ RDm I' b (rc ++ (p_C n tx a).2.1.map mcd) ∧ (p_ck n tx a ≠ 2 → I' 155 c = ((b + rc.length : Nat) : Int) ∧ I' 156 c = ((b + (rc ++ (p_C n tx a).2.1.map mcd).length : Nat) : Int)))) := fun d I1 e g1 g2 => by
    refine ex_retz rfl (Or.inl rfl) rfl ?_
    rw [e]
    exact ⟨rfl, I1, rfl, g1, g2, fun q => by cases q⟩
  refine x_CQ.of (M := xM_m_takesClause) rfl (Nat.le_of_ble_eq_true rfl) ?_
  refine ex_st 2 (pc' := 2) (ls' := [(0, xr 143), (1, xi (↑c))]) (st' := [xi (↑c), xr 143]) rfl ?_
  refine ex_callQ (ct_m_takesHead (L := L) hT ha han hL hc) (by decide) rfl ⟨rfl, rfl, rfl⟩ ⟨Nat.le_of_ble_eq_true rfl, rfl, rfl⟩ (Nat.le_of_ble_eq_true rfl) rfl (fun ra m2 hQ => ?_)
  obtain ⟨rfl, I1, rfl, a1, v1, f1⟩ := hQ
  have T1 : TXm I1 n tx := hT.fr (f1 _ _ (by omega)) (fun j => f1 _ _ (by omega))
  have F1 : FRk b c I I1 := fun k j hk => f1 k j (by omega)
  refine ex_beq rfl (fun h1 => ?_) (fun h1 => ?_)
  · refine ex_st 1 (pc' := 16) (ls' := [(0, xr 143), (1, xi (↑c))]) (st' := [xi 0]) rfl ?_
    refine ex_retz rfl (Or.inl rfl) rfl ?_
    rw [show p_C n tx a = (p_cb n tx a, [], false) by unfold p_C; rw [if_neg h1]]
    exact ⟨rfl, I1, rfl, a1, F1, fun q => by cases q⟩
  · refine ex_st 1 (pc' := 9) (ls' := [(0, xr 143), (1, xi (↑c))]) (st' := [xr 143]) rfl ?_
    refine ex_callQ (ct_m_takesNumber (L := L) T1 a1 hcb.2) (by decide) rfl ⟨rfl, rfl, rfl⟩ ⟨Nat.le_of_ble_eq_true rfl, rfl, rfl⟩ (Nat.le_of_ble_eq_true rfl) rfl (fun ra m2 hQ => ?_)
    obtain ⟨rfl, I2, rfl, a2, d2, f2⟩ := hQ
    have F2 : FRk b c I I2 := fun k j hk => by rw [f2 k j (by omega), F1 k j hk]
    refine ex_bne rfl (fun h2 => ?_) (fun h2 => ?_)
    · have hpos : ¬ p_cn n tx a < 0 := by unfold p_cn; omega
      have hp3 := hna.2.2 h2
      refine ex_st 5 (pc' := 26) (ls' := [(0, xr 143), (1, xi (↑c))]) (st' := [xi (I2 143 16), xi (↑c), xr 154]) rfl ?_
      rw [d2 h2]
      refine ex_iast (j := c) rfl (by decide) (rfl : xSH[154]? = some _) rfl (by omega) (by decide) ?_
      generalize hM : x_up I2 154 c (p_nm n tx (p_cb n tx a)) = I3
      have g3 : ∀ k j, ¬ (k = 154 ∧ j = c) → I3 k j = I2 k j := fun k j hk => by rw [← hM, x_up_far hk]
      have v3 : I3 154 c = p_cn n tx a := by rw [← hM, x_up_at]; rfl
      have F3 : FRk b c I I3 := fun k j hk => by rw [g3 k j (by omega), F2 k j hk]
      have w3 : I3 153 c = p_ck n tx a := by rw [g3 _ _ (by omega), f2 _ _ (by omega)]; exact v1
      have a3 : I3 143 15 = ((p_na n tx (p_cb n tx a) : Nat) : Int) := by rw [g3 _ _ (by omega)]; exact a2
      have T3 : TXm I3 n tx := hT.fr (F3 _ _ (by omega)) (fun j => F3 _ _ (by omega))
      have C3 : RDm I3 b rc := hC.fr (by rw [g3 _ _ (by omega), f2 _ _ (by omega), f1 _ _ (by omega)]) (fun j => by rw [g3 _ _ (by omega), f2 _ _ (by omega), f1 _ _ (by omega)])
      refine ex_st 3 (pc' := 32) (ls' := [(0, xr 143), (1, xi (↑c))]) (st' := [xi (↑c), xr 153]) rfl ?_
      refine ex_iald (j := c) rfl (by decide) (rfl : xSH[153]? = some _) rfl (by omega) (by decide) ?_
      rw [w3]
      refine ex_st 1 (pc' := 34) (ls' := [(0, xr 143), (1, xi (↑c))]) (st' := [xi 2, xi (p_ck n tx a)]) rfl ?_
      refine ex_ic rfl (by constructor <;> omega) (by decide) (fun (h3 : p_ck n tx a = 2) => ?_) (fun (h3 : ¬ p_ck n tx a = 2) => ?_)
      · have e : p_C n tx a = (p_na n tx (p_cb n tx a), [], true) := by unfold p_C; rw [if_pos h1, if_neg hpos, if_pos h3]
        refine ex_st 2 (pc' := 59) (ls' := [(0, xr 143), (1, xi (↑c))]) (st' := [xi 1]) rfl ?_
        refine ex_retz rfl (Or.inr rfl) rfl ?_
        rw [e]
        refine ⟨rfl, I3, rfl, a3, F3, fun _ => ⟨w3, v3, ?_, fun q => absurd h3 q⟩⟩
        show RDm I3 b (rc ++ ([] : List Int).map mcd)
        rw [show ([] : List Int).map mcd = [] from rfl, List.append_nil]
        exact C3
      · refine ex_st 2 (pc' := 40) (ls' := [(0, xr 143), (1, xi (↑c))]) (st' := [xi 32, xr 143]) rfl ?_
        by_cases h4 : pg n tx (p_na n tx (p_cb n tx a)) = 32
        · have hag := pg_lt (n := n) (tx := tx) (a := p_na n tx (p_cb n tx a)) (by omega)
          have e : p_C n tx a = p_E n tx (p_S n tx 4) 101 false (p_na n tx (p_cb n tx a) + 1) [] := by unfold p_C; rw [if_pos h1, if_neg hpos, if_neg h3, if_pos h4]
          refine ex_callQ (ct_m_takes_y (L := L) T3 a3 hna.2.1 (c := 32) (by decide) h4) (by decide) rfl ⟨rfl, rfl, rfl⟩ ⟨Nat.le_of_ble_eq_true rfl, rfl, rfl⟩ (Nat.le_of_ble_eq_true rfl) rfl (fun ra m2 hQ => ?_)
          obtain ⟨rfl, I4, rfl, a4, f4⟩ := hQ
          have T4 : TXm I4 n tx := T3.fr (f4 _ _ (by omega)) (fun j => f4 _ _ (by omega))
          refine ex_st 1 (pc' := 46) (ls' := [(0, xr 143), (1, xi (↑c))]) (st' := []) rfl ?_
          refine ex_st 2 (pc' := 48) (ls' := [(0, xr 143), (1, xi (↑c))]) (st' := [xi (↑c), xr 143]) rfl ?_
          refine ex_callQ (ct_m_takesE (L := L) hc T4 a4 hag (C3.fr (f4 _ _ (by omega)) (fun j => f4 _ _ (by omega))) hb (by omega)) (by decide) rfl ⟨rfl, rfl, rfl⟩ ⟨Nat.le_of_ble_eq_true rfl, rfl, rfl⟩ (Nat.le_of_ble_eq_true rfl) rfl (fun ra m2 hQ => ?_)
          obtain ⟨rfl, I5, rfl, a5, f5, g5⟩ := hQ
          rw [← e] at a5 g5 ⊢
          have F5 : FRk b c I I5 := fun k j hk => by rw [f5 k j (by omega), f4 k j (by omega), F3 k j hk]
          refine ex_beq rfl (fun h5 => ?_) (fun h5 => ?_)
          · refine ex_st 1 (pc' := 59) (ls' := [(0, xr 143), (1, xi (↑c))]) (st' := [xi 0]) rfl ?_
            refine ex_retz rfl (Or.inl rfl) rfl ?_
            exact ⟨by unfold x_b; rw [if_neg h5], I5, rfl, a5, F5, fun q => absurd q h5⟩
          · obtain ⟨C5, q5, q6⟩ := g5 h5
            refine ex_st 2 (pc' := 59) (ls' := [(0, xr 143), (1, xi (↑c))]) (st' := [xi 1]) rfl ?_
            refine ex_retz rfl (Or.inr rfl) rfl ?_
            exact ⟨by unfold x_b; rw [if_pos h5], I5, rfl, a5, F5, fun _ => ⟨by rw [f5 _ _ (by omega), f4 _ _ (by omega)]; exact w3, by rw [f5 _ _ (by omega), f4 _ _ (by omega)]; exact v3, C5, fun _ => ⟨q5, q6⟩⟩⟩
        · refine ex_call (ct_m_takes_n (L := L) T3 a3 hna.2.1 (c := 32) (by decide) h4) (by decide) rfl ⟨rfl, rfl, rfl⟩ ⟨Nat.le_of_ble_eq_true rfl, rfl, rfl⟩ (Nat.le_of_ble_eq_true rfl) rfl ?_
          refine ex_st 1 (pc' := 58) (ls' := [(0, xr 143), (1, xi (↑c))]) (st' := []) rfl ?_
          refine ex_st 1 (pc' := 59) (ls' := [(0, xr 143), (1, xi (↑c))]) (st' := [xi 0]) rfl ?_
          exact fail _ I3 (by unfold p_C; rw [if_pos h1, if_neg hpos, if_neg h3, if_neg h4]) a3 F3
    · have h2' : p_nm n tx (p_cb n tx a) < 0 := by omega
      refine ex_st 1 (pc' := 16) (ls' := [(0, xr 143), (1, xi (↑c))]) (st' := [xi 0]) rfl ?_
      refine ex_retz rfl (Or.inl rfl) rfl ?_
      rw [show p_C n tx a = (p_cb n tx a, [], false) by unfold p_C; rw [if_pos h1, if_pos (show p_cn n tx a < 0 from h2')]]
      exact ⟨rfl, I2, rfl, by rw [a2, p_nm_na n tx _ h2'], F2, fun q => by cases q⟩
/-- z clauses as the reference keeps them -/
def MI (I : Nat → Nat → Int) (f n : Nat) (tx : Nat → Nat) (z : Nat) : Prop := ∀ y, y < z → I 153 (10 * f + y) = p_ks n tx y ∧ I 154 (10 * f + y) = p_ns n tx y ∧ (p_ks n tx y ≠ 2 → I 155 (10 * f + y) = ((100 * f + (p_A n tx y).length : Nat) : Int) ∧ I 156 (10 * f + y) = ((100 * f + (p_A n tx (y + 1)).length : Nat) : Int))
def FRg (f : Nat) (I I' : Nat → Nat → Int) : Prop := ∀ k j, ¬ ((k = 143 ∧ (j = 15 ∨ j = 16 ∨ j = 25 ∨ j = 26 ∨ j = 27)) ∨ (k = 157 ∧ 100 * f ≤ j ∧ j < 100 * f + 100) ∨ k = 158 ∨ (153 ≤ k ∧ k ≤ 156 ∧ 10 * f ≤ j ∧ j < 10 * f + 10) ∨ (k = 152 ∧ j = f)) → I' k j = I k j
theorem lp_GT {sc : List Int} {L : Nat → Nat → Int64} {n : Nat} {tx : Nat → Nat} {f : Nat} (hf : f < 6) {Q : Option xPV → xMem → Prop} (z : Nat) (hz : z < 10) (I : Nat → Nat → Int) (hT : TXm I n tx) (ha : I 143 15 = ((p_q n tx z : Nat) : Int)) (han : p_q n tx z ≤ n) (hL : LTs I) (hC : RDm I (100 * f) ((p_A n tx z).map mcd)) (hl : (p_A n tx z).length ≤ p_q n tx z) (hMI : MI I f n tx z)
    (kk : ∀ I' : Nat → Nat → Int, (p_out n tx (10 - z) z).2.2 = true → I' 152 f = (((p_out n tx (10 - z) z).2.1 : Nat) : Int) → MI I' f n tx (p_out n tx (10 - z) z).2.1 → RDm I' (100 * f) ((p_A n tx (p_out n tx (10 - z) z).2.1).map mcd) → FRg f I I' → Q (some (xi 1)) (xSH, I', L))
    (kf : ∀ I' : Nat → Nat → Int, (p_out n tx (10 - z) z).2.2 = false → I' 143 15 = (((p_out n tx (10 - z) z).1 : Nat) : Int) → FRg f I I' → Q (some (xi 0)) (xSH, I', L)) :
    x_Ex sc 10 xM_m_goesText 15 [(2, xi (↑z)), (0, xr 143), (1, xi (↑f))] [] (xSH, I, L) Q := by
  have hn := hT.2.1
  have hb := p_C_bd (n := n) (tx := tx) han
  have hb1 := hb.2.1
  have e : p_out n tx (10 - z) z = if (p_C n tx (p_q n tx z)).2.2 = true then (if (p_C n tx (p_q n tx z)).1 = n then (n, z + 1, true) else if 9 - z = 0 ∨ pg n tx (p_C n tx (p_q n tx z)).1 ≠ 59 then ((p_C n tx (p_q n tx z)).1, z + 1, false) else p_out n tx (9 - z) (z + 1)) else ((p_C n tx (p_q n tx z)).1, z, false) := by
    rw [show 10 - z = (9 - z) + 1 by omega]; rfl
  refine ex_st 6 (pc' := 22) (ls' := [(2, xi (↑z)), (0, xr 143), (1, xi (↑f))]) (st' := [xi (10 * ↑f + ↑z), xr 143]) rfl ?_
  rw [show (10 * (f : Int) + (z : Int)) = ((10 * f + z : Nat) : Int) by omega]
  refine ex_callQ (ct_m_takesClause (L := L) (c := 10 * f + z) hT ha han hL (by omega) hC (by omega) (by rw [List.length_map]; exact hl)) (by decide) rfl ⟨rfl, rfl, rfl⟩ ⟨Nat.le_of_ble_eq_true rfl, rfl, rfl⟩ (Nat.le_of_ble_eq_true rfl) rfl (fun ra m2 hQ => ?_)
  obtain ⟨rfl, I1, rfl, a1, f1, g1⟩ := hQ
  have G1 : FRg f I I1 := fun k j hk => f1 k j (by omega)
  refine ex_bne rfl (fun h1 => ?_) (fun h1 => ?_)
  · rw [if_pos h1] at e
    obtain ⟨w1, w2, C1, w3⟩ := g1 h1
    have hb2 := hb.2.2 h1
    have hA : (p_A n tx (z + 1)).length = (p_A n tx z).length + (p_C n tx (p_q n tx z)).2.1.length := List.length_append
    have hAm : (p_A n tx z).map mcd ++ (p_C n tx (p_q n tx z)).2.1.map mcd = (p_A n tx (z + 1)).map mcd := by rw [← List.map_append]; rfl
    rw [hAm] at C1 w3
    simp only [List.length_map] at w3
    have hq1 : p_q n tx (z + 1) = (p_C n tx (p_q n tx z)).1 + 1 := rfl
    have M1 : MI I1 f n tx (z + 1) := fun y hy => by
      by_cases hyz : y = z
      · subst hyz; exact ⟨w1, w2, w3⟩
      · rw [f1 _ _ (by omega), f1 _ _ (by omega), f1 _ _ (by omega), f1 _ _ (by omega)]; exact hMI y (by omega)
    refine ex_st 5 (pc' := 39) (ls' := [(2, xi (↑z + 1)), (0, xr 143), (1, xi (↑f))]) (st' := [xi (↑z + 1), xi (↑f), xr 152]) rfl ?_
    refine ex_iast (j := f) rfl (by decide) (rfl : xSH[152]? = some _) rfl (by omega) (by decide) ?_
    generalize hM : x_up I1 152 f (↑z + 1) = I2
    have g2 : ∀ k j, ¬ (k = 152 ∧ j = f) → I2 k j = I1 k j := fun k j hk => by rw [← hM, x_up_far hk]
    have v2 : I2 152 f = ((z + 1 : Nat) : Int) := by rw [← hM, x_up_at]; rfl
    have G2 : FRg f I I2 := fun k j hk => by rw [g2 k j (by omega), G1 k j hk]
    have T2 : TXm I2 n tx := hT.fr (G2 _ _ (by omega)) (fun j => G2 _ _ (by omega))
    have a2 : I2 143 15 = (((p_C n tx (p_q n tx z)).1 : Nat) : Int) := by rw [g2 _ _ (by omega)]; exact a1
    have C2 : RDm I2 (100 * f) ((p_A n tx (z + 1)).map mcd) := C1.fr (g2 _ _ (by omega)) (fun j => g2 _ _ (by omega))
    have M2 : MI I2 f n tx (z + 1) := fun y hy => by
      rw [g2 _ _ (by omega), g2 _ _ (by omega), g2 _ _ (by omega), g2 _ _ (by omega)]; exact M1 y hy
    refine ex_st 2 (pc' := 44) (ls' := [(2, xi (↑z + 1)), (0, xr 143), (1, xi (↑f))]) (st' := [xi (I2 143 15)]) rfl ?_
    rw [a2]
    refine ex_st 2 (pc' := 48) (ls' := [(2, xi (↑z + 1)), (0, xr 143), (1, xi (↑f))]) (st' := [xi (I2 143 14), xi (((p_C n tx (p_q n tx z)).1 : Nat) : Int)]) rfl ?_
    rw [T2.1]
    refine ex_ic rfl (by constructor <;> omega) (by constructor <;> omega) (fun (h2 : ¬ (((p_C n tx (p_q n tx z)).1 : Nat) : Int) = (n : Int)) => ?_) (fun (h2 : ¬ ¬ (((p_C n tx (p_q n tx z)).1 : Nat) : Int) = (n : Int)) => ?_)
    · rw [if_neg (by omega)] at e
      refine ex_st 2 (pc' := 56) (ls' := [(2, xi (↑z + 1)), (0, xr 143), (1, xi (↑f))]) (st' := [xi 10, xi (↑z + 1)]) rfl ?_
      refine ex_ic rfl (by constructor <;> omega) (by decide) (fun (h3 : (↑z + 1 : Int) = 10) => ?_) (fun (h3 : ¬ (↑z + 1 : Int) = 10) => ?_)
      · rw [if_pos (Or.inl (by omega))] at e
        refine ex_st 1 (pc' := 69) (ls' := [(2, xi (↑z + 1)), (0, xr 143), (1, xi (↑f))]) (st' := [xi 0]) rfl ?_
        refine ex_retz rfl (Or.inl rfl) rfl ?_
        exact kf I2 (by rw [e]) (by rw [e]; exact a2) G2
      · refine ex_st 2 (pc' := 62) (ls' := [(2, xi (↑z + 1)), (0, xr 143), (1, xi (↑f))]) (st' := [xi 59, xr 143]) rfl ?_
        by_cases h4 : pg n tx (p_C n tx (p_q n tx z)).1 = 59
        · have hag := pg_lt (n := n) (tx := tx) (a := (p_C n tx (p_q n tx z)).1) (by omega)
          rw [if_neg (by intro q; rcases q with q | q; omega; exact q h4)] at e
          refine ex_callQ (ct_m_takes_y (L := L) T2 a2 hb1 (c := 59) (by decide) h4) (by decide) rfl ⟨rfl, rfl, rfl⟩ ⟨Nat.le_of_ble_eq_true rfl, rfl, rfl⟩ (Nat.le_of_ble_eq_true rfl) rfl (fun ra m2 hQ => ?_)
          obtain ⟨rfl, I3, rfl, a3, f3⟩ := hQ
          refine ex_st 1 (pc' := 15) (ls' := [(2, xi (↑z + 1)), (0, xr 143), (1, xi (↑f))]) (st' := []) rfl ?_
          have G3 : FRg f I I3 := fun k j hk => by rw [f3 k j (by omega), G2 k j hk]
          refine lp_GT hf (z + 1) (by omega) I3 (hT.fr (G3 _ _ (by omega)) (fun j => G3 _ _ (by omega))) a3 hag (fun x hx => by rw [G3 _ _ (by omega)]; exact hL x hx) (C2.fr (f3 _ _ (by omega)) (fun j => f3 _ _ (by omega))) (by omega) (fun y hy => by rw [f3 _ _ (by omega), f3 _ _ (by omega), f3 _ _ (by omega), f3 _ _ (by omega)]; exact M2 y hy) (fun I' q1 q2 q3 q4 q5 => ?_) (fun I' q1 q2 q3 => ?_)
          · rw [show 10 - (z + 1) = 9 - z by omega, ← e] at q1 q2 q3 q4
            exact kk I' q1 q2 q3 q4 (fun k j hk => by rw [q5 k j hk, G3 k j hk])
          · rw [show 10 - (z + 1) = 9 - z by omega, ← e] at q1 q2
            exact kf I' q1 q2 (fun k j hk => by rw [q3 k j hk, G3 k j hk])
        · rw [if_pos (Or.inr h4)] at e
          refine ex_call (ct_m_takes_n (L := L) T2 a2 hb1 (c := 59) (by decide) h4) (by decide) rfl ⟨rfl, rfl, rfl⟩ ⟨Nat.le_of_ble_eq_true rfl, rfl, rfl⟩ (Nat.le_of_ble_eq_true rfl) rfl ?_
          refine ex_st 1 (pc' := 68) (ls' := [(2, xi (↑z + 1)), (0, xr 143), (1, xi (↑f))]) (st' := []) rfl ?_
          refine ex_st 1 (pc' := 69) (ls' := [(2, xi (↑z + 1)), (0, xr 143), (1, xi (↑f))]) (st' := [xi 0]) rfl ?_
          refine ex_retz rfl (Or.inl rfl) rfl ?_
          exact kf I2 (by rw [e]) (by rw [e]; exact a2) G2
    · rw [if_pos (by omega)] at e
      refine ex_st 1 (pc' := 52) (ls' := [(2, xi (↑z + 1)), (0, xr 143), (1, xi (↑f))]) (st' := [xi 1]) rfl ?_
      refine ex_retz rfl (Or.inr rfl) rfl ?_
      exact kk I2 (by rw [e]) (by rw [e]; exact v2) (by rw [e]; exact M2) (by rw [e]; exact C2) G2
  · rw [if_neg h1] at e
    refine ex_st 1 (pc' := 29) (ls' := [(2, xi (↑z)), (0, xr 143), (1, xi (↑f))]) (st' := [xi 0]) rfl ?_
    refine ex_retz rfl (Or.inl rfl) rfl ?_
    exact kf I1 (by rw [e]) (by rw [e]; exact a1) G1
termination_by 10 - z
decreasing_by all_goals omega
theorem ct_m_goesText {sc : List Int} {I : Nat → Nat → Int} {L : Nat → Nat → Int64} {n : Nat} {tx : Nat → Nat} {f : Nat} (hf : f < 6) (hT : TXm I n tx) (hL : LTs I) : x_CQ sc 11 xN_m_goesText [xr 143, xi (↑f)] (xSH, I, L) (fun r m' => r = some (xi (x_b ((p_out n tx 10 0).2.2 = true))) ∧ ∃ I', m' = (xSH, I', L) ∧ FRg f I I' ∧ ((p_out n tx 10 0).2.2 = false → I' 143 15 = (((p_out n tx 10 0).1 : Nat) : Int)) ∧ ((p_out n tx 10 0).2.2 = true → I' 152 f = (((p_out n tx 10 0).2.1 : Nat) : Int) ∧ MI I' f n tx (p_out n tx 10 0).2.1 ∧ RDm I' (100 * f) ((p_A n tx (p_out n tx 10 0).2.1).map mcd))) := by
  refine x_CQ.of (M := xM_m_goesText) rfl (Nat.le_of_ble_eq_true rfl) ?_
  refine ex_st 2 (pc' := 2) (ls' := [(0, xr 143), (1, xi (↑f))]) (st' := [xi 0, xr 143]) rfl ?_
  refine ex_pfi rfl (by decide) (rfl : xSH[143]? = some _) (by decide) rfl (by decide) (fun h => by cases h) ?_
  refine ex_st 4 (pc' := 10) (ls' := [(0, xr 143), (1, xi (↑f))]) (st' := [xi (100 * ↑f), xr 143]) rfl ?_
  refine ex_pfi rfl (by decide) (rfl : xSH[143]? = some _) (by decide) rfl (by decide) (fun h => by cases h) ?_
  generalize hM : x_up (x_up I 143 15 0) 143 25 (100 * ↑f) = I1
  have g1 : ∀ k j, ¬ (k = 143 ∧ (j = 15 ∨ j = 25)) → I1 k j = I k j := fun k j hk => by rw [← hM, x_up_far (by omega), x_up_far (by omega)]
  refine ex_st 2 (pc' := 15) (ls' := [(2, xi 0), (0, xr 143), (1, xi (↑f))]) (st' := []) rfl ?_
  have G1 : FRg f I I1 := fun k j hk => g1 k j (by omega)
  refine lp_GT hf 0 (by decide) I1 (hT.fr (g1 _ _ (by omega)) (fun j => g1 _ _ (by omega))) (by rw [← hM, x_up_far (by decide), x_up_at]; rfl) (Nat.zero_le _) (fun x hx => by rw [g1 _ _ (by omega)]; exact hL x hx) ⟨by rw [← hM, x_up_at]; show 100 * (f : Int) = ((100 * f + 0 : Nat) : Int); omega, fun j hj => absurd hj (Nat.not_lt_zero _)⟩ (Nat.le_refl _) (fun y hy => absurd hy (Nat.not_lt_zero _)) (fun I' q1 q2 q3 q4 q5 => ?_) (fun I' q1 q2 q3 => ?_)
  · have q1' : (p_out n tx 10 0).2.2 = true := q1
    exact ⟨by unfold x_b; rw [if_pos q1'], I', rfl, fun k j hk => by rw [q5 k j hk, G1 k j hk], (fun q => by rw [q1'] at q; cases q), fun _ => ⟨q2, q3, q4⟩⟩
  · have q1' : (p_out n tx 10 0).2.2 = false := q1
    exact ⟨by unfold x_b; rw [if_neg (by rw [q1']; decide)], I', rfl, fun k j hk => by rw [q3 k j hk, G1 k j hk], fun _ => q2, (fun q => by rw [q1'] at q; cases q)⟩

