/-! the reference's reader: words, numbers, tests -/
theorem ct_m_takesWord1010 {sc : List Int} {I : Nat → Nat → Int} {L : Nat → Nat → Int64} {n : Nat} {tx : Nat → Nat} (hT : TXm I n tx) {a : Nat} (ha : I 143 15 = (a : Int)) (han : a ≤ n) (hL : LTs I) : x_CQ sc 4 xN_m_takesWord [xr 143, xi 0, xi 4] (xSH, I, L) (fun r m' => r = some (xi (x_b ((p_w n tx [108, 105, 107, 101, 32] a).2 = true))) ∧ ∃ I', m' = (xSH, I', L) ∧ I' 143 15 = ((p_w n tx [108, 105, 107, 101, 32] a).1 : Int) ∧ (∀ k j, ¬ (k = 143 ∧ j = 15) → I' k j = I k j)) := by
  have hn100 := hT.2.1
  refine x_CQ.of (M := xM_m_takesWord) rfl (Nat.le_of_ble_eq_true rfl) ?_
  refine ex_st 4 (pc' := 4) (ls' := [(3, xi 0), (0, xr 143), (1, xi 0), (2, xi 4)]) (st' := [xi 4, xi 0]) rfl ?_
  refine ex_st 1 (pc' := 7) (ls' := [(3, xi 0), (0, xr 143), (1, xi 0), (2, xi 4)]) (st' := []) rfl ?_
  refine ex_st 6 (pc' := 15) (ls' := [(3, xi 0), (0, xr 143), (1, xi 0), (2, xi 4)]) (st' := [xi 0, xr 159, xr 143]) rfl ?_
  refine ex_iald (j := 0) rfl (by decide) (rfl : xSH[159]? = some _) (by decide) (by decide) (by decide) ?_
  rw [(show I 159 0 = 108 from hL 0 (by decide))]
  by_cases k1 : pg n tx (a) = 108
  · have a9 := pg_lt (n := n) (tx := tx) (a := a) (by omega)
    refine ex_callQ (ct_m_takes_y (L := L) hT ha (by omega) (c := 108) (by decide) k1) (by decide) rfl ⟨rfl, rfl, rfl⟩ ⟨Nat.le_of_ble_eq_true rfl, rfl, rfl⟩ (Nat.le_of_ble_eq_true rfl) rfl (fun ra m2 hQ => ?_)
    obtain ⟨rfl, J1, rfl, aJ1, gJ1⟩ := hQ
    have fJ1 : ∀ k j, ¬ (k = 143 ∧ j = 15) → J1 k j = I k j := fun k j hk => by rw [gJ1 k j (by omega)]
    have tJ1 : TXm J1 n tx := hT.fr (fJ1 _ _ (by omega)) (fun j => fJ1 _ _ (by omega))
    refine ex_st 1 (pc' := 24) (ls' := [(3, xi 0), (0, xr 143), (1, xi 0), (2, xi 4)]) (st' := []) rfl ?_
    refine ex_st 4 (pc' := 4) (ls' := [(3, xi 1), (0, xr 143), (1, xi 0), (2, xi 4)]) (st' := [xi 4, xi 1]) rfl ?_
    refine ex_st 1 (pc' := 7) (ls' := [(3, xi 1), (0, xr 143), (1, xi 0), (2, xi 4)]) (st' := []) rfl ?_
    refine ex_st 6 (pc' := 15) (ls' := [(3, xi 1), (0, xr 143), (1, xi 0), (2, xi 4)]) (st' := [xi 1, xr 159, xr 143]) rfl ?_
    refine ex_iald (j := 1) rfl (by decide) (rfl : xSH[159]? = some _) (by decide) (by decide) (by decide) ?_
    rw [fJ1 _ _ (by omega), (show I 159 1 = 105 from hL 1 (by decide))]
    by_cases k2 : pg n tx (a + 1) = 105
    · have a9 := pg_lt (n := n) (tx := tx) (a := a + 1) (by omega)
      refine ex_callQ (ct_m_takes_y (L := L) tJ1 aJ1 (by omega) (c := 105) (by decide) k2) (by decide) rfl ⟨rfl, rfl, rfl⟩ ⟨Nat.le_of_ble_eq_true rfl, rfl, rfl⟩ (Nat.le_of_ble_eq_true rfl) rfl (fun ra m2 hQ => ?_)
      obtain ⟨rfl, J2, rfl, aJ2, gJ2⟩ := hQ
      have fJ2 : ∀ k j, ¬ (k = 143 ∧ j = 15) → J2 k j = I k j := fun k j hk => by rw [gJ2 k j (by omega), fJ1 k j (by omega)]
      have tJ2 : TXm J2 n tx := hT.fr (fJ2 _ _ (by omega)) (fun j => fJ2 _ _ (by omega))
      refine ex_st 1 (pc' := 24) (ls' := [(3, xi 1), (0, xr 143), (1, xi 0), (2, xi 4)]) (st' := []) rfl ?_
      refine ex_st 4 (pc' := 4) (ls' := [(3, xi 2), (0, xr 143), (1, xi 0), (2, xi 4)]) (st' := [xi 4, xi 2]) rfl ?_
      refine ex_st 1 (pc' := 7) (ls' := [(3, xi 2), (0, xr 143), (1, xi 0), (2, xi 4)]) (st' := []) rfl ?_
      refine ex_st 6 (pc' := 15) (ls' := [(3, xi 2), (0, xr 143), (1, xi 0), (2, xi 4)]) (st' := [xi 2, xr 159, xr 143]) rfl ?_
      refine ex_iald (j := 2) rfl (by decide) (rfl : xSH[159]? = some _) (by decide) (by decide) (by decide) ?_
      rw [fJ2 _ _ (by omega), (show I 159 2 = 107 from hL 2 (by decide))]
      by_cases k3 : pg n tx (a + 2) = 107
      · have a9 := pg_lt (n := n) (tx := tx) (a := a + 2) (by omega)
        refine ex_callQ (ct_m_takes_y (L := L) tJ2 aJ2 (by omega) (c := 107) (by decide) k3) (by decide) rfl ⟨rfl, rfl, rfl⟩ ⟨Nat.le_of_ble_eq_true rfl, rfl, rfl⟩ (Nat.le_of_ble_eq_true rfl) rfl (fun ra m2 hQ => ?_)
        obtain ⟨rfl, J3, rfl, aJ3, gJ3⟩ := hQ
        have fJ3 : ∀ k j, ¬ (k = 143 ∧ j = 15) → J3 k j = I k j := fun k j hk => by rw [gJ3 k j (by omega), fJ2 k j (by omega)]
        have tJ3 : TXm J3 n tx := hT.fr (fJ3 _ _ (by omega)) (fun j => fJ3 _ _ (by omega))
        refine ex_st 1 (pc' := 24) (ls' := [(3, xi 2), (0, xr 143), (1, xi 0), (2, xi 4)]) (st' := []) rfl ?_
        refine ex_st 4 (pc' := 4) (ls' := [(3, xi 3), (0, xr 143), (1, xi 0), (2, xi 4)]) (st' := [xi 4, xi 3]) rfl ?_
        refine ex_st 1 (pc' := 7) (ls' := [(3, xi 3), (0, xr 143), (1, xi 0), (2, xi 4)]) (st' := []) rfl ?_
        refine ex_st 6 (pc' := 15) (ls' := [(3, xi 3), (0, xr 143), (1, xi 0), (2, xi 4)]) (st' := [xi 3, xr 159, xr 143]) rfl ?_
        refine ex_iald (j := 3) rfl (by decide) (rfl : xSH[159]? = some _) (by decide) (by decide) (by decide) ?_
        rw [fJ3 _ _ (by omega), (show I 159 3 = 101 from hL 3 (by decide))]
        by_cases k4 : pg n tx (a + 3) = 101
        · have a9 := pg_lt (n := n) (tx := tx) (a := a + 3) (by omega)
          refine ex_callQ (ct_m_takes_y (L := L) tJ3 aJ3 (by omega) (c := 101) (by decide) k4) (by decide) rfl ⟨rfl, rfl, rfl⟩ ⟨Nat.le_of_ble_eq_true rfl, rfl, rfl⟩ (Nat.le_of_ble_eq_true rfl) rfl (fun ra m2 hQ => ?_)
          obtain ⟨rfl, J4, rfl, aJ4, gJ4⟩ := hQ
          have fJ4 : ∀ k j, ¬ (k = 143 ∧ j = 15) → J4 k j = I k j := fun k j hk => by rw [gJ4 k j (by omega), fJ3 k j (by omega)]
          have tJ4 : TXm J4 n tx := hT.fr (fJ4 _ _ (by omega)) (fun j => fJ4 _ _ (by omega))
          refine ex_st 1 (pc' := 24) (ls' := [(3, xi 3), (0, xr 143), (1, xi 0), (2, xi 4)]) (st' := []) rfl ?_
          refine ex_st 4 (pc' := 4) (ls' := [(3, xi 4), (0, xr 143), (1, xi 0), (2, xi 4)]) (st' := [xi 4, xi 4]) rfl ?_
          refine ex_st 1 (pc' := 30) (ls' := [(3, xi 4), (0, xr 143), (1, xi 0), (2, xi 4)]) (st' := []) rfl ?_
          refine ex_st 2 (pc' := 33) (ls' := [(3, xi 4), (0, xr 143), (1, xi 0), (2, xi 4)]) (st' := [xi 32, xr 143]) rfl ?_
          by_cases k5 : pg n tx (a + 4) = 32
          · have a9 := pg_lt (n := n) (tx := tx) (a := a + 4) (by omega)
            refine ex_callQ (ct_m_takes_y (L := L) tJ4 aJ4 (by omega) (c := 32) (by decide) k5) (by decide) rfl ⟨rfl, rfl, rfl⟩ ⟨Nat.le_of_ble_eq_true rfl, rfl, rfl⟩ (Nat.le_of_ble_eq_true rfl) rfl (fun ra m2 hQ => ?_)
            obtain ⟨rfl, J5, rfl, aJ5, gJ5⟩ := hQ
            have fJ5 : ∀ k j, ¬ (k = 143 ∧ j = 15) → J5 k j = I k j := fun k j hk => by rw [gJ5 k j (by omega), fJ4 k j (by omega)]
            have tJ5 : TXm J5 n tx := hT.fr (fJ5 _ _ (by omega)) (fun j => fJ5 _ _ (by omega))
            refine ex_retz rfl (Or.inr rfl) rfl ?_
            have e9 : p_w n tx [108, 105, 107, 101, 32] a = (a + 5, true) := by simp only [p_w]; rw [if_pos k1, if_pos k2, if_pos k3, if_pos k4, if_pos k5]
            rw [e9]
            exact ⟨rfl, J5, rfl, aJ5, fJ5⟩
          · refine ex_call (ct_m_takes_n (L := L) tJ4 aJ4 (by omega) (c := 32) (by decide) k5) (by decide) rfl ⟨rfl, rfl, rfl⟩ ⟨Nat.le_of_ble_eq_true rfl, rfl, rfl⟩ (Nat.le_of_ble_eq_true rfl) rfl ?_
            refine ex_retz rfl (Or.inl rfl) rfl ?_
            have e9 : p_w n tx [108, 105, 107, 101, 32] a = (a + 4, false) := by simp only [p_w]; rw [if_pos k1, if_pos k2, if_pos k3, if_pos k4, if_neg k5]
            rw [e9]
            exact ⟨rfl, J4, rfl, aJ4, fJ4⟩
        · refine ex_call (ct_m_takes_n (L := L) tJ3 aJ3 (by omega) (c := 101) (by decide) k4) (by decide) rfl ⟨rfl, rfl, rfl⟩ ⟨Nat.le_of_ble_eq_true rfl, rfl, rfl⟩ (Nat.le_of_ble_eq_true rfl) rfl ?_
          refine ex_st 1 (pc' := 22) (ls' := [(3, xi 3), (0, xr 143), (1, xi 0), (2, xi 4)]) (st' := []) rfl ?_
          refine ex_st 1 (pc' := 23) (ls' := [(3, xi 3), (0, xr 143), (1, xi 0), (2, xi 4)]) (st' := [xi 0]) rfl ?_
          refine ex_retz rfl (Or.inl rfl) rfl ?_
          have e9 : p_w n tx [108, 105, 107, 101, 32] a = (a + 3, false) := by simp only [p_w]; rw [if_pos k1, if_pos k2, if_pos k3, if_neg k4]
          rw [e9]
          exact ⟨rfl, J3, rfl, aJ3, fJ3⟩
      · refine ex_call (ct_m_takes_n (L := L) tJ2 aJ2 (by omega) (c := 107) (by decide) k3) (by decide) rfl ⟨rfl, rfl, rfl⟩ ⟨Nat.le_of_ble_eq_true rfl, rfl, rfl⟩ (Nat.le_of_ble_eq_true rfl) rfl ?_
        refine ex_st 1 (pc' := 22) (ls' := [(3, xi 2), (0, xr 143), (1, xi 0), (2, xi 4)]) (st' := []) rfl ?_
        refine ex_st 1 (pc' := 23) (ls' := [(3, xi 2), (0, xr 143), (1, xi 0), (2, xi 4)]) (st' := [xi 0]) rfl ?_
        refine ex_retz rfl (Or.inl rfl) rfl ?_
        have e9 : p_w n tx [108, 105, 107, 101, 32] a = (a + 2, false) := by simp only [p_w]; rw [if_pos k1, if_pos k2, if_neg k3]
        rw [e9]
        exact ⟨rfl, J2, rfl, aJ2, fJ2⟩
    · refine ex_call (ct_m_takes_n (L := L) tJ1 aJ1 (by omega) (c := 105) (by decide) k2) (by decide) rfl ⟨rfl, rfl, rfl⟩ ⟨Nat.le_of_ble_eq_true rfl, rfl, rfl⟩ (Nat.le_of_ble_eq_true rfl) rfl ?_
      refine ex_st 1 (pc' := 22) (ls' := [(3, xi 1), (0, xr 143), (1, xi 0), (2, xi 4)]) (st' := []) rfl ?_
      refine ex_st 1 (pc' := 23) (ls' := [(3, xi 1), (0, xr 143), (1, xi 0), (2, xi 4)]) (st' := [xi 0]) rfl ?_
      refine ex_retz rfl (Or.inl rfl) rfl ?_
      have e9 : p_w n tx [108, 105, 107, 101, 32] a = (a + 1, false) := by simp only [p_w]; rw [if_pos k1, if_neg k2]
      rw [e9]
      exact ⟨rfl, J1, rfl, aJ1, fJ1⟩
  · refine ex_call (ct_m_takes_n (L := L) hT ha (by omega) (c := 108) (by decide) k1) (by decide) rfl ⟨rfl, rfl, rfl⟩ ⟨Nat.le_of_ble_eq_true rfl, rfl, rfl⟩ (Nat.le_of_ble_eq_true rfl) rfl ?_
    refine ex_st 1 (pc' := 22) (ls' := [(3, xi 0), (0, xr 143), (1, xi 0), (2, xi 4)]) (st' := []) rfl ?_
    refine ex_st 1 (pc' := 23) (ls' := [(3, xi 0), (0, xr 143), (1, xi 0), (2, xi 4)]) (st' := [xi 0]) rfl ?_
    refine ex_retz rfl (Or.inl rfl) rfl ?_
    have e9 : p_w n tx [108, 105, 107, 101, 32] a = (a, false) := by simp only [p_w]; rw [if_neg k1]
    rw [e9]
    exact ⟨rfl, I, rfl, ha, (fun _ _ _ => rfl)⟩
theorem ct_m_takesWord1011 {sc : List Int} {I : Nat → Nat → Int} {L : Nat → Nat → Int64} {n : Nat} {tx : Nat → Nat} (hT : TXm I n tx) {a : Nat} (ha : I 143 15 = (a : Int)) (han : a ≤ n) (hL : LTs I) : x_CQ sc 4 xN_m_takesWord [xr 143, xi 4, xi 6] (xSH, I, L) (fun r m' => r = some (xi (x_b ((p_w n tx [108, 111, 97, 116, 104, 101, 32] a).2 = true))) ∧ ∃ I', m' = (xSH, I', L) ∧ I' 143 15 = ((p_w n tx [108, 111, 97, 116, 104, 101, 32] a).1 : Int) ∧ (∀ k j, ¬ (k = 143 ∧ j = 15) → I' k j = I k j)) := by
  have hn100 := hT.2.1
  refine x_CQ.of (M := xM_m_takesWord) rfl (Nat.le_of_ble_eq_true rfl) ?_
  refine ex_st 4 (pc' := 4) (ls' := [(3, xi 0), (0, xr 143), (1, xi 4), (2, xi 6)]) (st' := [xi 6, xi 0]) rfl ?_
  refine ex_st 1 (pc' := 7) (ls' := [(3, xi 0), (0, xr 143), (1, xi 4), (2, xi 6)]) (st' := []) rfl ?_
  refine ex_st 6 (pc' := 15) (ls' := [(3, xi 0), (0, xr 143), (1, xi 4), (2, xi 6)]) (st' := [xi 4, xr 159, xr 143]) rfl ?_
  refine ex_iald (j := 4) rfl (by decide) (rfl : xSH[159]? = some _) (by decide) (by decide) (by decide) ?_
  rw [(show I 159 4 = 108 from hL 4 (by decide))]
  by_cases k1 : pg n tx (a) = 108
  · have a9 := pg_lt (n := n) (tx := tx) (a := a) (by omega)
    refine ex_callQ (ct_m_takes_y (L := L) hT ha (by omega) (c := 108) (by decide) k1) (by decide) rfl ⟨rfl, rfl, rfl⟩ ⟨Nat.le_of_ble_eq_true rfl, rfl, rfl⟩ (Nat.le_of_ble_eq_true rfl) rfl (fun ra m2 hQ => ?_)
    obtain ⟨rfl, J1, rfl, aJ1, gJ1⟩ := hQ
    have fJ1 : ∀ k j, ¬ (k = 143 ∧ j = 15) → J1 k j = I k j := fun k j hk => by rw [gJ1 k j (by omega)]
    have tJ1 : TXm J1 n tx := hT.fr (fJ1 _ _ (by omega)) (fun j => fJ1 _ _ (by omega))
    refine ex_st 1 (pc' := 24) (ls' := [(3, xi 0), (0, xr 143), (1, xi 4), (2, xi 6)]) (st' := []) rfl ?_
    refine ex_st 4 (pc' := 4) (ls' := [(3, xi 1), (0, xr 143), (1, xi 4), (2, xi 6)]) (st' := [xi 6, xi 1]) rfl ?_
    refine ex_st 1 (pc' := 7) (ls' := [(3, xi 1), (0, xr 143), (1, xi 4), (2, xi 6)]) (st' := []) rfl ?_
    refine ex_st 6 (pc' := 15) (ls' := [(3, xi 1), (0, xr 143), (1, xi 4), (2, xi 6)]) (st' := [xi 5, xr 159, xr 143]) rfl ?_
    refine ex_iald (j := 5) rfl (by decide) (rfl : xSH[159]? = some _) (by decide) (by decide) (by decide) ?_
    rw [fJ1 _ _ (by omega), (show I 159 5 = 111 from hL 5 (by decide))]
    by_cases k2 : pg n tx (a + 1) = 111
    · have a9 := pg_lt (n := n) (tx := tx) (a := a + 1) (by omega)
      refine ex_callQ (ct_m_takes_y (L := L) tJ1 aJ1 (by omega) (c := 111) (by decide) k2) (by decide) rfl ⟨rfl, rfl, rfl⟩ ⟨Nat.le_of_ble_eq_true rfl, rfl, rfl⟩ (Nat.le_of_ble_eq_true rfl) rfl (fun ra m2 hQ => ?_)
      obtain ⟨rfl, J2, rfl, aJ2, gJ2⟩ := hQ
      have fJ2 : ∀ k j, ¬ (k = 143 ∧ j = 15) → J2 k j = I k j := fun k j hk => by rw [gJ2 k j (by omega), fJ1 k j (by omega)]
      have tJ2 : TXm J2 n tx := hT.fr (fJ2 _ _ (by omega)) (fun j => fJ2 _ _ (by omega))
      refine ex_st 1 (pc' := 24) (ls' := [(3, xi 1), (0, xr 143), (1, xi 4), (2, xi 6)]) (st' := []) rfl ?_
      refine ex_st 4 (pc' := 4) (ls' := [(3, xi 2), (0, xr 143), (1, xi 4), (2, xi 6)]) (st' := [xi 6, xi 2]) rfl ?_
      refine ex_st 1 (pc' := 7) (ls' := [(3, xi 2), (0, xr 143), (1, xi 4), (2, xi 6)]) (st' := []) rfl ?_
      refine ex_st 6 (pc' := 15) (ls' := [(3, xi 2), (0, xr 143), (1, xi 4), (2, xi 6)]) (st' := [xi 6, xr 159, xr 143]) rfl ?_
      refine ex_iald (j := 6) rfl (by decide) (rfl : xSH[159]? = some _) (by decide) (by decide) (by decide) ?_
      rw [fJ2 _ _ (by omega), (show I 159 6 = 97 from hL 6 (by decide))]
      by_cases k3 : pg n tx (a + 2) = 97
      · have a9 := pg_lt (n := n) (tx := tx) (a := a + 2) (by omega)
        refine ex_callQ (ct_m_takes_y (L := L) tJ2 aJ2 (by omega) (c := 97) (by decide) k3) (by decide) rfl ⟨rfl, rfl, rfl⟩ ⟨Nat.le_of_ble_eq_true rfl, rfl, rfl⟩ (Nat.le_of_ble_eq_true rfl) rfl (fun ra m2 hQ => ?_)
        obtain ⟨rfl, J3, rfl, aJ3, gJ3⟩ := hQ
        have fJ3 : ∀ k j, ¬ (k = 143 ∧ j = 15) → J3 k j = I k j := fun k j hk => by rw [gJ3 k j (by omega), fJ2 k j (by omega)]
        have tJ3 : TXm J3 n tx := hT.fr (fJ3 _ _ (by omega)) (fun j => fJ3 _ _ (by omega))
        refine ex_st 1 (pc' := 24) (ls' := [(3, xi 2), (0, xr 143), (1, xi 4), (2, xi 6)]) (st' := []) rfl ?_
        refine ex_st 4 (pc' := 4) (ls' := [(3, xi 3), (0, xr 143), (1, xi 4), (2, xi 6)]) (st' := [xi 6, xi 3]) rfl ?_
        refine ex_st 1 (pc' := 7) (ls' := [(3, xi 3), (0, xr 143), (1, xi 4), (2, xi 6)]) (st' := []) rfl ?_
        refine ex_st 6 (pc' := 15) (ls' := [(3, xi 3), (0, xr 143), (1, xi 4), (2, xi 6)]) (st' := [xi 7, xr 159, xr 143]) rfl ?_
        refine ex_iald (j := 7) rfl (by decide) (rfl : xSH[159]? = some _) (by decide) (by decide) (by decide) ?_
        rw [fJ3 _ _ (by omega), (show I 159 7 = 116 from hL 7 (by decide))]
        by_cases k4 : pg n tx (a + 3) = 116
        · have a9 := pg_lt (n := n) (tx := tx) (a := a + 3) (by omega)
          refine ex_callQ (ct_m_takes_y (L := L) tJ3 aJ3 (by omega) (c := 116) (by decide) k4) (by decide) rfl ⟨rfl, rfl, rfl⟩ ⟨Nat.le_of_ble_eq_true rfl, rfl, rfl⟩ (Nat.le_of_ble_eq_true rfl) rfl (fun ra m2 hQ => ?_)
          obtain ⟨rfl, J4, rfl, aJ4, gJ4⟩ := hQ
          have fJ4 : ∀ k j, ¬ (k = 143 ∧ j = 15) → J4 k j = I k j := fun k j hk => by rw [gJ4 k j (by omega), fJ3 k j (by omega)]
          have tJ4 : TXm J4 n tx := hT.fr (fJ4 _ _ (by omega)) (fun j => fJ4 _ _ (by omega))
          refine ex_st 1 (pc' := 24) (ls' := [(3, xi 3), (0, xr 143), (1, xi 4), (2, xi 6)]) (st' := []) rfl ?_
          refine ex_st 4 (pc' := 4) (ls' := [(3, xi 4), (0, xr 143), (1, xi 4), (2, xi 6)]) (st' := [xi 6, xi 4]) rfl ?_
          refine ex_st 1 (pc' := 7) (ls' := [(3, xi 4), (0, xr 143), (1, xi 4), (2, xi 6)]) (st' := []) rfl ?_
          refine ex_st 6 (pc' := 15) (ls' := [(3, xi 4), (0, xr 143), (1, xi 4), (2, xi 6)]) (st' := [xi 8, xr 159, xr 143]) rfl ?_
          refine ex_iald (j := 8) rfl (by decide) (rfl : xSH[159]? = some _) (by decide) (by decide) (by decide) ?_
          rw [fJ4 _ _ (by omega), (show I 159 8 = 104 from hL 8 (by decide))]
          by_cases k5 : pg n tx (a + 4) = 104
          · have a9 := pg_lt (n := n) (tx := tx) (a := a + 4) (by omega)
            refine ex_callQ (ct_m_takes_y (L := L) tJ4 aJ4 (by omega) (c := 104) (by decide) k5) (by decide) rfl ⟨rfl, rfl, rfl⟩ ⟨Nat.le_of_ble_eq_true rfl, rfl, rfl⟩ (Nat.le_of_ble_eq_true rfl) rfl (fun ra m2 hQ => ?_)
            obtain ⟨rfl, J5, rfl, aJ5, gJ5⟩ := hQ
            have fJ5 : ∀ k j, ¬ (k = 143 ∧ j = 15) → J5 k j = I k j := fun k j hk => by rw [gJ5 k j (by omega), fJ4 k j (by omega)]
            have tJ5 : TXm J5 n tx := hT.fr (fJ5 _ _ (by omega)) (fun j => fJ5 _ _ (by omega))
            refine ex_st 1 (pc' := 24) (ls' := [(3, xi 4), (0, xr 143), (1, xi 4), (2, xi 6)]) (st' := []) rfl ?_
            refine ex_st 4 (pc' := 4) (ls' := [(3, xi 5), (0, xr 143), (1, xi 4), (2, xi 6)]) (st' := [xi 6, xi 5]) rfl ?_
            refine ex_st 1 (pc' := 7) (ls' := [(3, xi 5), (0, xr 143), (1, xi 4), (2, xi 6)]) (st' := []) rfl ?_
            refine ex_st 6 (pc' := 15) (ls' := [(3, xi 5), (0, xr 143), (1, xi 4), (2, xi 6)]) (st' := [xi 9, xr 159, xr 143]) rfl ?_
            refine ex_iald (j := 9) rfl (by decide) (rfl : xSH[159]? = some _) (by decide) (by decide) (by decide) ?_
            rw [fJ5 _ _ (by omega), (show I 159 9 = 101 from hL 9 (by decide))]
            by_cases k6 : pg n tx (a + 5) = 101
            · have a9 := pg_lt (n := n) (tx := tx) (a := a + 5) (by omega)
              refine ex_callQ (ct_m_takes_y (L := L) tJ5 aJ5 (by omega) (c := 101) (by decide) k6) (by decide) rfl ⟨rfl, rfl, rfl⟩ ⟨Nat.le_of_ble_eq_true rfl, rfl, rfl⟩ (Nat.le_of_ble_eq_true rfl) rfl (fun ra m2 hQ => ?_)
              obtain ⟨rfl, J6, rfl, aJ6, gJ6⟩ := hQ
              have fJ6 : ∀ k j, ¬ (k = 143 ∧ j = 15) → J6 k j = I k j := fun k j hk => by rw [gJ6 k j (by omega), fJ5 k j (by omega)]
              have tJ6 : TXm J6 n tx := hT.fr (fJ6 _ _ (by omega)) (fun j => fJ6 _ _ (by omega))
              refine ex_st 1 (pc' := 24) (ls' := [(3, xi 5), (0, xr 143), (1, xi 4), (2, xi 6)]) (st' := []) rfl ?_
              refine ex_st 4 (pc' := 4) (ls' := [(3, xi 6), (0, xr 143), (1, xi 4), (2, xi 6)]) (st' := [xi 6, xi 6]) rfl ?_
              refine ex_st 1 (pc' := 30) (ls' := [(3, xi 6), (0, xr 143), (1, xi 4), (2, xi 6)]) (st' := []) rfl ?_
              refine ex_st 2 (pc' := 33) (ls' := [(3, xi 6), (0, xr 143), (1, xi 4), (2, xi 6)]) (st' := [xi 32, xr 143]) rfl ?_
              by_cases k7 : pg n tx (a + 6) = 32
              · have a9 := pg_lt (n := n) (tx := tx) (a := a + 6) (by omega)
                refine ex_callQ (ct_m_takes_y (L := L) tJ6 aJ6 (by omega) (c := 32) (by decide) k7) (by decide) rfl ⟨rfl, rfl, rfl⟩ ⟨Nat.le_of_ble_eq_true rfl, rfl, rfl⟩ (Nat.le_of_ble_eq_true rfl) rfl (fun ra m2 hQ => ?_)
                obtain ⟨rfl, J7, rfl, aJ7, gJ7⟩ := hQ
                have fJ7 : ∀ k j, ¬ (k = 143 ∧ j = 15) → J7 k j = I k j := fun k j hk => by rw [gJ7 k j (by omega), fJ6 k j (by omega)]
                have tJ7 : TXm J7 n tx := hT.fr (fJ7 _ _ (by omega)) (fun j => fJ7 _ _ (by omega))
                refine ex_retz rfl (Or.inr rfl) rfl ?_
                have e9 : p_w n tx [108, 111, 97, 116, 104, 101, 32] a = (a + 7, true) := by simp only [p_w]; rw [if_pos k1, if_pos k2, if_pos k3, if_pos k4, if_pos k5, if_pos k6, if_pos k7]
                rw [e9]
                exact ⟨rfl, J7, rfl, aJ7, fJ7⟩
              · refine ex_call (ct_m_takes_n (L := L) tJ6 aJ6 (by omega) (c := 32) (by decide) k7) (by decide) rfl ⟨rfl, rfl, rfl⟩ ⟨Nat.le_of_ble_eq_true rfl, rfl, rfl⟩ (Nat.le_of_ble_eq_true rfl) rfl ?_
                refine ex_retz rfl (Or.inl rfl) rfl ?_
                have e9 : p_w n tx [108, 111, 97, 116, 104, 101, 32] a = (a + 6, false) := by simp only [p_w]; rw [if_pos k1, if_pos k2, if_pos k3, if_pos k4, if_pos k5, if_pos k6, if_neg k7]
                rw [e9]
                exact ⟨rfl, J6, rfl, aJ6, fJ6⟩
            · refine ex_call (ct_m_takes_n (L := L) tJ5 aJ5 (by omega) (c := 101) (by decide) k6) (by decide) rfl ⟨rfl, rfl, rfl⟩ ⟨Nat.le_of_ble_eq_true rfl, rfl, rfl⟩ (Nat.le_of_ble_eq_true rfl) rfl ?_
              refine ex_st 1 (pc' := 22) (ls' := [(3, xi 5), (0, xr 143), (1, xi 4), (2, xi 6)]) (st' := []) rfl ?_
              refine ex_st 1 (pc' := 23) (ls' := [(3, xi 5), (0, xr 143), (1, xi 4), (2, xi 6)]) (st' := [xi 0]) rfl ?_
              refine ex_retz rfl (Or.inl rfl) rfl ?_
              have e9 : p_w n tx [108, 111, 97, 116, 104, 101, 32] a = (a + 5, false) := by simp only [p_w]; rw [if_pos k1, if_pos k2, if_pos k3, if_pos k4, if_pos k5, if_neg k6]
              rw [e9]
              exact ⟨rfl, J5, rfl, aJ5, fJ5⟩
          · refine ex_call (ct_m_takes_n (L := L) tJ4 aJ4 (by omega) (c := 104) (by decide) k5) (by decide) rfl ⟨rfl, rfl, rfl⟩ ⟨Nat.le_of_ble_eq_true rfl, rfl, rfl⟩ (Nat.le_of_ble_eq_true rfl) rfl ?_
            refine ex_st 1 (pc' := 22) (ls' := [(3, xi 4), (0, xr 143), (1, xi 4), (2, xi 6)]) (st' := []) rfl ?_
            refine ex_st 1 (pc' := 23) (ls' := [(3, xi 4), (0, xr 143), (1, xi 4), (2, xi 6)]) (st' := [xi 0]) rfl ?_
            refine ex_retz rfl (Or.inl rfl) rfl ?_
            have e9 : p_w n tx [108, 111, 97, 116, 104, 101, 32] a = (a + 4, false) := by simp only [p_w]; rw [if_pos k1, if_pos k2, if_pos k3, if_pos k4, if_neg k5]
            rw [e9]
            exact ⟨rfl, J4, rfl, aJ4, fJ4⟩
        · refine ex_call (ct_m_takes_n (L := L) tJ3 aJ3 (by omega) (c := 116) (by decide) k4) (by decide) rfl ⟨rfl, rfl, rfl⟩ ⟨Nat.le_of_ble_eq_true rfl, rfl, rfl⟩ (Nat.le_of_ble_eq_true rfl) rfl ?_
          refine ex_st 1 (pc' := 22) (ls' := [(3, xi 3), (0, xr 143), (1, xi 4), (2, xi 6)]) (st' := []) rfl ?_
          refine ex_st 1 (pc' := 23) (ls' := [(3, xi 3), (0, xr 143), (1, xi 4), (2, xi 6)]) (st' := [xi 0]) rfl ?_
          refine ex_retz rfl (Or.inl rfl) rfl ?_
          have e9 : p_w n tx [108, 111, 97, 116, 104, 101, 32] a = (a + 3, false) := by simp only [p_w]; rw [if_pos k1, if_pos k2, if_pos k3, if_neg k4]
          rw [e9]
          exact ⟨rfl, J3, rfl, aJ3, fJ3⟩
      · refine ex_call (ct_m_takes_n (L := L) tJ2 aJ2 (by omega) (c := 97) (by decide) k3) (by decide) rfl ⟨rfl, rfl, rfl⟩ ⟨Nat.le_of_ble_eq_true rfl, rfl, rfl⟩ (Nat.le_of_ble_eq_true rfl) rfl ?_
        refine ex_st 1 (pc' := 22) (ls' := [(3, xi 2), (0, xr 143), (1, xi 4), (2, xi 6)]) (st' := []) rfl ?_
        refine ex_st 1 (pc' := 23) (ls' := [(3, xi 2), (0, xr 143), (1, xi 4), (2, xi 6)]) (st' := [xi 0]) rfl ?_
        refine ex_retz rfl (Or.inl rfl) rfl ?_
        have e9 : p_w n tx [108, 111, 97, 116, 104, 101, 32] a = (a + 2, false) := by simp only [p_w]; rw [if_pos k1, if_pos k2, if_neg k3]
        rw [e9]
        exact ⟨rfl, J2, rfl, aJ2, fJ2⟩
    · refine ex_call (ct_m_takes_n (L := L) tJ1 aJ1 (by omega) (c := 111) (by decide) k2) (by decide) rfl ⟨rfl, rfl, rfl⟩ ⟨Nat.le_of_ble_eq_true rfl, rfl, rfl⟩ (Nat.le_of_ble_eq_true rfl) rfl ?_
      refine ex_st 1 (pc' := 22) (ls' := [(3, xi 1), (0, xr 143), (1, xi 4), (2, xi 6)]) (st' := []) rfl ?_
      refine ex_st 1 (pc' := 23) (ls' := [(3, xi 1), (0, xr 143), (1, xi 4), (2, xi 6)]) (st' := [xi 0]) rfl ?_
      refine ex_retz rfl (Or.inl rfl) rfl ?_
      have e9 : p_w n tx [108, 111, 97, 116, 104, 101, 32] a = (a + 1, false) := by simp only [p_w]; rw [if_pos k1, if_neg k2]
      rw [e9]
      exact ⟨rfl, J1, rfl, aJ1, fJ1⟩
  · refine ex_call (ct_m_takes_n (L := L) hT ha (by omega) (c := 108) (by decide) k1) (by decide) rfl ⟨rfl, rfl, rfl⟩ ⟨Nat.le_of_ble_eq_true rfl, rfl, rfl⟩ (Nat.le_of_ble_eq_true rfl) rfl ?_
    refine ex_st 1 (pc' := 22) (ls' := [(3, xi 0), (0, xr 143), (1, xi 4), (2, xi 6)]) (st' := []) rfl ?_
    refine ex_st 1 (pc' := 23) (ls' := [(3, xi 0), (0, xr 143), (1, xi 4), (2, xi 6)]) (st' := [xi 0]) rfl ?_
    refine ex_retz rfl (Or.inl rfl) rfl ?_
    have e9 : p_w n tx [108, 111, 97, 116, 104, 101, 32] a = (a, false) := by simp only [p_w]; rw [if_neg k1]
    rw [e9]
    exact ⟨rfl, I, rfl, ha, (fun _ _ _ => rfl)⟩
theorem ct_m_takesWord1012 {sc : List Int} {I : Nat → Nat → Int} {L : Nat → Nat → Int64} {n : Nat} {tx : Nat → Nat} (hT : TXm I n tx) {a : Nat} (ha : I 143 15 = (a : Int)) (han : a ≤ n) (hL : LTs I) : x_CQ sc 4 xN_m_takesWord [xr 143, xi 10, xi 5] (xSH, I, L) (fun r m' => r = some (xi (x_b ((p_w n tx [113, 117, 111, 116, 97, 32] a).2 = true))) ∧ ∃ I', m' = (xSH, I', L) ∧ I' 143 15 = ((p_w n tx [113, 117, 111, 116, 97, 32] a).1 : Int) ∧ (∀ k j, ¬ (k = 143 ∧ j = 15) → I' k j = I k j)) := by
  have hn100 := hT.2.1
  refine x_CQ.of (M := xM_m_takesWord) rfl (Nat.le_of_ble_eq_true rfl) ?_
  refine ex_st 4 (pc' := 4) (ls' := [(3, xi 0), (0, xr 143), (1, xi 10), (2, xi 5)]) (st' := [xi 5, xi 0]) rfl ?_
  refine ex_st 1 (pc' := 7) (ls' := [(3, xi 0), (0, xr 143), (1, xi 10), (2, xi 5)]) (st' := []) rfl ?_
  refine ex_st 6 (pc' := 15) (ls' := [(3, xi 0), (0, xr 143), (1, xi 10), (2, xi 5)]) (st' := [xi 10, xr 159, xr 143]) rfl ?_
  refine ex_iald (j := 10) rfl (by decide) (rfl : xSH[159]? = some _) (by decide) (by decide) (by decide) ?_
  rw [(show I 159 10 = 113 from hL 10 (by decide))]
  by_cases k1 : pg n tx (a) = 113
  · have a9 := pg_lt (n := n) (tx := tx) (a := a) (by omega)
    refine ex_callQ (ct_m_takes_y (L := L) hT ha (by omega) (c := 113) (by decide) k1) (by decide) rfl ⟨rfl, rfl, rfl⟩ ⟨Nat.le_of_ble_eq_true rfl, rfl, rfl⟩ (Nat.le_of_ble_eq_true rfl) rfl (fun ra m2 hQ => ?_)
    obtain ⟨rfl, J1, rfl, aJ1, gJ1⟩ := hQ
    have fJ1 : ∀ k j, ¬ (k = 143 ∧ j = 15) → J1 k j = I k j := fun k j hk => by rw [gJ1 k j (by omega)]
    have tJ1 : TXm J1 n tx := hT.fr (fJ1 _ _ (by omega)) (fun j => fJ1 _ _ (by omega))
    refine ex_st 1 (pc' := 24) (ls' := [(3, xi 0), (0, xr 143), (1, xi 10), (2, xi 5)]) (st' := []) rfl ?_
    refine ex_st 4 (pc' := 4) (ls' := [(3, xi 1), (0, xr 143), (1, xi 10), (2, xi 5)]) (st' := [xi 5, xi 1]) rfl ?_
    refine ex_st 1 (pc' := 7) (ls' := [(3, xi 1), (0, xr 143), (1, xi 10), (2, xi 5)]) (st' := []) rfl ?_
    refine ex_st 6 (pc' := 15) (ls' := [(3, xi 1), (0, xr 143), (1, xi 10), (2, xi 5)]) (st' := [xi 11, xr 159, xr 143]) rfl ?_
    refine ex_iald (j := 11) rfl (by decide) (rfl : xSH[159]? = some _) (by decide) (by decide) (by decide) ?_
    rw [fJ1 _ _ (by omega), (show I 159 11 = 117 from hL 11 (by decide))]
    by_cases k2 : pg n tx (a + 1) = 117
    · have a9 := pg_lt (n := n) (tx := tx) (a := a + 1) (by omega)
      refine ex_callQ (ct_m_takes_y (L := L) tJ1 aJ1 (by omega) (c := 117) (by decide) k2) (by decide) rfl ⟨rfl, rfl, rfl⟩ ⟨Nat.le_of_ble_eq_true rfl, rfl, rfl⟩ (Nat.le_of_ble_eq_true rfl) rfl (fun ra m2 hQ => ?_)
      obtain ⟨rfl, J2, rfl, aJ2, gJ2⟩ := hQ
      have fJ2 : ∀ k j, ¬ (k = 143 ∧ j = 15) → J2 k j = I k j := fun k j hk => by rw [gJ2 k j (by omega), fJ1 k j (by omega)]
      have tJ2 : TXm J2 n tx := hT.fr (fJ2 _ _ (by omega)) (fun j => fJ2 _ _ (by omega))
      refine ex_st 1 (pc' := 24) (ls' := [(3, xi 1), (0, xr 143), (1, xi 10), (2, xi 5)]) (st' := []) rfl ?_
      refine ex_st 4 (pc' := 4) (ls' := [(3, xi 2), (0, xr 143), (1, xi 10), (2, xi 5)]) (st' := [xi 5, xi 2]) rfl ?_
      refine ex_st 1 (pc' := 7) (ls' := [(3, xi 2), (0, xr 143), (1, xi 10), (2, xi 5)]) (st' := []) rfl ?_
      refine ex_st 6 (pc' := 15) (ls' := [(3, xi 2), (0, xr 143), (1, xi 10), (2, xi 5)]) (st' := [xi 12, xr 159, xr 143]) rfl ?_
      refine ex_iald (j := 12) rfl (by decide) (rfl : xSH[159]? = some _) (by decide) (by decide) (by decide) ?_
      rw [fJ2 _ _ (by omega), (show I 159 12 = 111 from hL 12 (by decide))]
      by_cases k3 : pg n tx (a + 2) = 111
      · have a9 := pg_lt (n := n) (tx := tx) (a := a + 2) (by omega)
        refine ex_callQ (ct_m_takes_y (L := L) tJ2 aJ2 (by omega) (c := 111) (by decide) k3) (by decide) rfl ⟨rfl, rfl, rfl⟩ ⟨Nat.le_of_ble_eq_true rfl, rfl, rfl⟩ (Nat.le_of_ble_eq_true rfl) rfl (fun ra m2 hQ => ?_)
        obtain ⟨rfl, J3, rfl, aJ3, gJ3⟩ := hQ
        have fJ3 : ∀ k j, ¬ (k = 143 ∧ j = 15) → J3 k j = I k j := fun k j hk => by rw [gJ3 k j (by omega), fJ2 k j (by omega)]
        have tJ3 : TXm J3 n tx := hT.fr (fJ3 _ _ (by omega)) (fun j => fJ3 _ _ (by omega))
        refine ex_st 1 (pc' := 24) (ls' := [(3, xi 2), (0, xr 143), (1, xi 10), (2, xi 5)]) (st' := []) rfl ?_
        refine ex_st 4 (pc' := 4) (ls' := [(3, xi 3), (0, xr 143), (1, xi 10), (2, xi 5)]) (st' := [xi 5, xi 3]) rfl ?_
        refine ex_st 1 (pc' := 7) (ls' := [(3, xi 3), (0, xr 143), (1, xi 10), (2, xi 5)]) (st' := []) rfl ?_
        refine ex_st 6 (pc' := 15) (ls' := [(3, xi 3), (0, xr 143), (1, xi 10), (2, xi 5)]) (st' := [xi 13, xr 159, xr 143]) rfl ?_
        refine ex_iald (j := 13) rfl (by decide) (rfl : xSH[159]? = some _) (by decide) (by decide) (by decide) ?_
        rw [fJ3 _ _ (by omega), (show I 159 13 = 116 from hL 13 (by decide))]
        by_cases k4 : pg n tx (a + 3) = 116
        · have a9 := pg_lt (n := n) (tx := tx) (a := a + 3) (by omega)
          refine ex_callQ (ct_m_takes_y (L := L) tJ3 aJ3 (by omega) (c := 116) (by decide) k4) (by decide) rfl ⟨rfl, rfl, rfl⟩ ⟨Nat.le_of_ble_eq_true rfl, rfl, rfl⟩ (Nat.le_of_ble_eq_true rfl) rfl (fun ra m2 hQ => ?_)
          obtain ⟨rfl, J4, rfl, aJ4, gJ4⟩ := hQ
          have fJ4 : ∀ k j, ¬ (k = 143 ∧ j = 15) → J4 k j = I k j := fun k j hk => by rw [gJ4 k j (by omega), fJ3 k j (by omega)]
          have tJ4 : TXm J4 n tx := hT.fr (fJ4 _ _ (by omega)) (fun j => fJ4 _ _ (by omega))
          refine ex_st 1 (pc' := 24) (ls' := [(3, xi 3), (0, xr 143), (1, xi 10), (2, xi 5)]) (st' := []) rfl ?_
          refine ex_st 4 (pc' := 4) (ls' := [(3, xi 4), (0, xr 143), (1, xi 10), (2, xi 5)]) (st' := [xi 5, xi 4]) rfl ?_
          refine ex_st 1 (pc' := 7) (ls' := [(3, xi 4), (0, xr 143), (1, xi 10), (2, xi 5)]) (st' := []) rfl ?_
          refine ex_st 6 (pc' := 15) (ls' := [(3, xi 4), (0, xr 143), (1, xi 10), (2, xi 5)]) (st' := [xi 14, xr 159, xr 143]) rfl ?_
          refine ex_iald (j := 14) rfl (by decide) (rfl : xSH[159]? = some _) (by decide) (by decide) (by decide) ?_
          rw [fJ4 _ _ (by omega), (show I 159 14 = 97 from hL 14 (by decide))]
          by_cases k5 : pg n tx (a + 4) = 97
          · have a9 := pg_lt (n := n) (tx := tx) (a := a + 4) (by omega)
            refine ex_callQ (ct_m_takes_y (L := L) tJ4 aJ4 (by omega) (c := 97) (by decide) k5) (by decide) rfl ⟨rfl, rfl, rfl⟩ ⟨Nat.le_of_ble_eq_true rfl, rfl, rfl⟩ (Nat.le_of_ble_eq_true rfl) rfl (fun ra m2 hQ => ?_)
            obtain ⟨rfl, J5, rfl, aJ5, gJ5⟩ := hQ
            have fJ5 : ∀ k j, ¬ (k = 143 ∧ j = 15) → J5 k j = I k j := fun k j hk => by rw [gJ5 k j (by omega), fJ4 k j (by omega)]
            have tJ5 : TXm J5 n tx := hT.fr (fJ5 _ _ (by omega)) (fun j => fJ5 _ _ (by omega))
            refine ex_st 1 (pc' := 24) (ls' := [(3, xi 4), (0, xr 143), (1, xi 10), (2, xi 5)]) (st' := []) rfl ?_
            refine ex_st 4 (pc' := 4) (ls' := [(3, xi 5), (0, xr 143), (1, xi 10), (2, xi 5)]) (st' := [xi 5, xi 5]) rfl ?_
            refine ex_st 1 (pc' := 30) (ls' := [(3, xi 5), (0, xr 143), (1, xi 10), (2, xi 5)]) (st' := []) rfl ?_
            refine ex_st 2 (pc' := 33) (ls' := [(3, xi 5), (0, xr 143), (1, xi 10), (2, xi 5)]) (st' := [xi 32, xr 143]) rfl ?_
            by_cases k6 : pg n tx (a + 5) = 32
            · have a9 := pg_lt (n := n) (tx := tx) (a := a + 5) (by omega)
              refine ex_callQ (ct_m_takes_y (L := L) tJ5 aJ5 (by omega) (c := 32) (by decide) k6) (by decide) rfl ⟨rfl, rfl, rfl⟩ ⟨Nat.le_of_ble_eq_true rfl, rfl, rfl⟩ (Nat.le_of_ble_eq_true rfl) rfl (fun ra m2 hQ => ?_)
              obtain ⟨rfl, J6, rfl, aJ6, gJ6⟩ := hQ
              have fJ6 : ∀ k j, ¬ (k = 143 ∧ j = 15) → J6 k j = I k j := fun k j hk => by rw [gJ6 k j (by omega), fJ5 k j (by omega)]
              have tJ6 : TXm J6 n tx := hT.fr (fJ6 _ _ (by omega)) (fun j => fJ6 _ _ (by omega))
              refine ex_retz rfl (Or.inr rfl) rfl ?_
              have e9 : p_w n tx [113, 117, 111, 116, 97, 32] a = (a + 6, true) := by simp only [p_w]; rw [if_pos k1, if_pos k2, if_pos k3, if_pos k4, if_pos k5, if_pos k6]
              rw [e9]
              exact ⟨rfl, J6, rfl, aJ6, fJ6⟩
            · refine ex_call (ct_m_takes_n (L := L) tJ5 aJ5 (by omega) (c := 32) (by decide) k6) (by decide) rfl ⟨rfl, rfl, rfl⟩ ⟨Nat.le_of_ble_eq_true rfl, rfl, rfl⟩ (Nat.le_of_ble_eq_true rfl) rfl ?_
              refine ex_retz rfl (Or.inl rfl) rfl ?_
              have e9 : p_w n tx [113, 117, 111, 116, 97, 32] a = (a + 5, false) := by simp only [p_w]; rw [if_pos k1, if_pos k2, if_pos k3, if_pos k4, if_pos k5, if_neg k6]
              rw [e9]
              exact ⟨rfl, J5, rfl, aJ5, fJ5⟩
          · refine ex_call (ct_m_takes_n (L := L) tJ4 aJ4 (by omega) (c := 97) (by decide) k5) (by decide) rfl ⟨rfl, rfl, rfl⟩ ⟨Nat.le_of_ble_eq_true rfl, rfl, rfl⟩ (Nat.le_of_ble_eq_true rfl) rfl ?_
            refine ex_st 1 (pc' := 22) (ls' := [(3, xi 4), (0, xr 143), (1, xi 10), (2, xi 5)]) (st' := []) rfl ?_
            refine ex_st 1 (pc' := 23) (ls' := [(3, xi 4), (0, xr 143), (1, xi 10), (2, xi 5)]) (st' := [xi 0]) rfl ?_
            refine ex_retz rfl (Or.inl rfl) rfl ?_
            have e9 : p_w n tx [113, 117, 111, 116, 97, 32] a = (a + 4, false) := by simp only [p_w]; rw [if_pos k1, if_pos k2, if_pos k3, if_pos k4, if_neg k5]
            rw [e9]
            exact ⟨rfl, J4, rfl, aJ4, fJ4⟩
        · refine ex_call (ct_m_takes_n (L := L) tJ3 aJ3 (by omega) (c := 116) (by decide) k4) (by decide) rfl ⟨rfl, rfl, rfl⟩ ⟨Nat.le_of_ble_eq_true rfl, rfl, rfl⟩ (Nat.le_of_ble_eq_true rfl) rfl ?_
          refine ex_st 1 (pc' := 22) (ls' := [(3, xi 3), (0, xr 143), (1, xi 10), (2, xi 5)]) (st' := []) rfl ?_
          refine ex_st 1 (pc' := 23) (ls' := [(3, xi 3), (0, xr 143), (1, xi 10), (2, xi 5)]) (st' := [xi 0]) rfl ?_
          refine ex_retz rfl (Or.inl rfl) rfl ?_
          have e9 : p_w n tx [113, 117, 111, 116, 97, 32] a = (a + 3, false) := by simp only [p_w]; rw [if_pos k1, if_pos k2, if_pos k3, if_neg k4]
          rw [e9]
          exact ⟨rfl, J3, rfl, aJ3, fJ3⟩
      · refine ex_call (ct_m_takes_n (L := L) tJ2 aJ2 (by omega) (c := 111) (by decide) k3) (by decide) rfl ⟨rfl, rfl, rfl⟩ ⟨Nat.le_of_ble_eq_true rfl, rfl, rfl⟩ (Nat.le_of_ble_eq_true rfl) rfl ?_
        refine ex_st 1 (pc' := 22) (ls' := [(3, xi 2), (0, xr 143), (1, xi 10), (2, xi 5)]) (st' := []) rfl ?_
        refine ex_st 1 (pc' := 23) (ls' := [(3, xi 2), (0, xr 143), (1, xi 10), (2, xi 5)]) (st' := [xi 0]) rfl ?_
        refine ex_retz rfl (Or.inl rfl) rfl ?_
        have e9 : p_w n tx [113, 117, 111, 116, 97, 32] a = (a + 2, false) := by simp only [p_w]; rw [if_pos k1, if_pos k2, if_neg k3]
        rw [e9]
        exact ⟨rfl, J2, rfl, aJ2, fJ2⟩
    · refine ex_call (ct_m_takes_n (L := L) tJ1 aJ1 (by omega) (c := 117) (by decide) k2) (by decide) rfl ⟨rfl, rfl, rfl⟩ ⟨Nat.le_of_ble_eq_true rfl, rfl, rfl⟩ (Nat.le_of_ble_eq_true rfl) rfl ?_
      refine ex_st 1 (pc' := 22) (ls' := [(3, xi 1), (0, xr 143), (1, xi 10), (2, xi 5)]) (st' := []) rfl ?_
      refine ex_st 1 (pc' := 23) (ls' := [(3, xi 1), (0, xr 143), (1, xi 10), (2, xi 5)]) (st' := [xi 0]) rfl ?_
      refine ex_retz rfl (Or.inl rfl) rfl ?_
      have e9 : p_w n tx [113, 117, 111, 116, 97, 32] a = (a + 1, false) := by simp only [p_w]; rw [if_pos k1, if_neg k2]
      rw [e9]
      exact ⟨rfl, J1, rfl, aJ1, fJ1⟩
  · refine ex_call (ct_m_takes_n (L := L) hT ha (by omega) (c := 113) (by decide) k1) (by decide) rfl ⟨rfl, rfl, rfl⟩ ⟨Nat.le_of_ble_eq_true rfl, rfl, rfl⟩ (Nat.le_of_ble_eq_true rfl) rfl ?_
    refine ex_st 1 (pc' := 22) (ls' := [(3, xi 0), (0, xr 143), (1, xi 10), (2, xi 5)]) (st' := []) rfl ?_
    refine ex_st 1 (pc' := 23) (ls' := [(3, xi 0), (0, xr 143), (1, xi 10), (2, xi 5)]) (st' := [xi 0]) rfl ?_
    refine ex_retz rfl (Or.inl rfl) rfl ?_
    have e9 : p_w n tx [113, 117, 111, 116, 97, 32] a = (a, false) := by simp only [p_w]; rw [if_neg k1]
    rw [e9]
    exact ⟨rfl, I, rfl, ha, (fun _ _ _ => rfl)⟩
theorem ct_m_takesNumber {sc : List Int} {I : Nat → Nat → Int} {L : Nat → Nat → Int64} {n : Nat} {tx : Nat → Nat} (hT : TXm I n tx) {a : Nat} (ha : I 143 15 = (a : Int)) (han : a ≤ n) : x_CQ sc 5 xN_m_takesNumber [xr 143] (xSH, I, L) (fun r m' => r = some (xi (x_b (0 ≤ p_nm n tx a))) ∧ ∃ I', m' = (xSH, I', L) ∧ I' 143 15 = ((p_na n tx a : Nat) : Int) ∧ (0 ≤ p_nm n tx a → I' 143 16 = p_nm n tx a) ∧ ∀ k j, ¬ (k = 143 ∧ (j = 15 ∨ j = 16)) → I' k j = I k j) := by
  have hn100 := hT.2.1
  have q0 := pn_pg n tx a
  have q1 := pn_pg n tx (a + 1)
  have q2 := pn_pg n tx (a + 2)
  have r0 := hT.lt a
  have r1 := hT.lt (a + 1)
  have r2 := hT.lt (a + 2)
  refine x_CQ.of (M := xM_m_takesNumber) rfl (Nat.le_of_ble_eq_true rfl) ?_
  refine ex_st 1 (pc' := 1) (ls' := [(0, xr 143)]) (st' := [xr 143]) rfl ?_
  refine ex_inl (M' := xM_m_isDigit) (as := [xr 143]) (rest := []) (D' := 3) rfl (Nat.le_of_ble_eq_true rfl) (by decide) rfl ⟨rfl, rfl, rfl⟩ ⟨Nat.le_of_ble_eq_true rfl, rfl, rfl⟩ (Nat.le_of_ble_eq_true rfl) rfl ?_
  refine ex_st 2 (pc' := 2) (ls' := [(0, xr 143)]) (st' := [xr 143, xr 143]) rfl ?_
  have pq := pn_pg n tx (a)
  have lq := hT.lt (a)
  refine ex_call (ct_m_next (L := L) hT ha (by omega)) (by decide) rfl ⟨rfl, rfl, rfl⟩ ⟨Nat.le_of_ble_eq_true rfl, rfl, rfl⟩ (Nat.le_of_ble_eq_true rfl) rfl ?_
  refine ex_st 2 (pc' := 9) (ls' := [(0, xr 143)]) (st' := [xi 57, xi 48, xi (pn n tx (a)), xr 143]) rfl ?_
  refine ex_call (ct_m_in (by first | omega | (constructor <;> omega) | assumption) (by first | omega | (constructor <;> omega) | assumption) (by first | omega | (constructor <;> omega) | assumption)) (by decide) rfl ⟨rfl, rfl, rfl⟩ ⟨Nat.le_of_ble_eq_true rfl, rfl, rfl⟩ (Nat.le_of_ble_eq_true rfl) rfl ?_
  refine ex_retz rfl (by first | exact x_b01 _ | omega) rfl ?_
  refine ex_bne rfl (fun h0 => ?_) (fun h0 => ?_)
  · refine ex_st 2 (pc' := 11) (ls' := [(0, xr 143)]) (st' := [xi 0, xr 143]) rfl ?_
    refine ex_pfi rfl (by decide) (rfl : xSH[143]? = some _) (by decide) rfl (by decide) (fun h => by cases h) ?_
    generalize hMJ1 : (x_up I 143 16 0) = J1
    have gJ1 : ∀ k j, ¬ (k = 143 ∧ j = 16) → J1 k j = I k j := fun k j hk => by rw [← hMJ1]; exact x_up_far hk
    have dJ1 : J1 143 16 = 0 := by rw [← hMJ1, x_up_at]
    have aJ1 : J1 143 15 = ((a : Nat) : Int) := by rw [gJ1 _ _ (by omega)]; exact ha
    have fJ1 : ∀ k j, ¬ (k = 143 ∧ (j = 15 ∨ j = 16)) → J1 k j = I k j := fun k j hk => by rw [gJ1 k j (by omega)]
    have tJ1 : TXm J1 n tx := hT.fr (fJ1 _ _ (by omega)) (fun j => fJ1 _ _ (by omega))
    refine ex_st 4 (pc' := 18) (ls' := [(1, xi 0), (0, xr 143)]) (st' := [xi 2, xi 0]) rfl ?_
    refine ex_st 1 (pc' := 21) (ls' := [(1, xi 0), (0, xr 143)]) (st' := []) rfl ?_
    refine ex_st 1 (pc' := 22) (ls' := [(1, xi 0), (0, xr 143)]) (st' := [xr 143]) rfl ?_
    refine ex_inl (M' := xM_m_isDigit) (as := [xr 143]) (rest := []) (D' := 3) rfl (Nat.le_of_ble_eq_true rfl) (by decide) rfl ⟨rfl, rfl, rfl⟩ ⟨Nat.le_of_ble_eq_true rfl, rfl, rfl⟩ (Nat.le_of_ble_eq_true rfl) rfl ?_
    refine ex_st 2 (pc' := 2) (ls' := [(0, xr 143)]) (st' := [xr 143, xr 143]) rfl ?_
    have pq := pn_pg n tx (a)
    have lq := hT.lt (a)
    refine ex_call (ct_m_next (L := L) tJ1 aJ1 (by omega)) (by decide) rfl ⟨rfl, rfl, rfl⟩ ⟨Nat.le_of_ble_eq_true rfl, rfl, rfl⟩ (Nat.le_of_ble_eq_true rfl) rfl ?_
    refine ex_st 2 (pc' := 9) (ls' := [(0, xr 143)]) (st' := [xi 57, xi 48, xi (pn n tx (a)), xr 143]) rfl ?_
    refine ex_call (ct_m_in (by first | omega | (constructor <;> omega) | assumption) (by first | omega | (constructor <;> omega) | assumption) (by first | omega | (constructor <;> omega) | assumption)) (by decide) rfl ⟨rfl, rfl, rfl⟩ ⟨Nat.le_of_ble_eq_true rfl, rfl, rfl⟩ (Nat.le_of_ble_eq_true rfl) rfl ?_
    refine ex_retz rfl (by first | exact x_b01 _ | omega) rfl ?_
    refine ex_beq rfl (fun h1 => ?_) (fun h1 => ?_)
    · refine ex_st 1 (pc' := 64) (ls' := [(1, xi 0), (0, xr 143)]) (st' := [xi 1]) rfl ?_
      refine ex_retz rfl (Or.inr rfl) rfl ?_
      exfalso; omega
    · refine ex_st 4 (pc' := 35) (ls' := [(1, xi 0), (0, xr 143)]) (st' := [xi (J1 143 16), xi 10, xr 143]) rfl ?_
      rw [dJ1]
      refine ex_st 2 (pc' := 37) (ls' := [(1, xi 0), (0, xr 143)]) (st' := [xr 143, xi 0, xr 143]) rfl ?_
      have pq := pn_pg n tx (a)
      have lq := hT.lt (a)
      refine ex_call (ct_m_next (L := L) tJ1 aJ1 (by omega)) (by decide) rfl ⟨rfl, rfl, rfl⟩ ⟨Nat.le_of_ble_eq_true rfl, rfl, rfl⟩ (Nat.le_of_ble_eq_true rfl) rfl ?_
      refine ex_st 3 (pc' := 44) (ls' := [(1, xi 0), (0, xr 143)]) (st' := [xi ((0 + (pn n tx (a))) - 48), xr 143]) rfl ?_
      refine ex_pfi rfl (by decide) (rfl : xSH[143]? = some _) (by decide) rfl (by decide) (fun h => by cases h) ?_
      generalize hMJ2 : (x_up J1 143 16 ((0 + (pn n tx (a))) - 48)) = J2
      have gJ2 : ∀ k j, ¬ (k = 143 ∧ j = 16) → J2 k j = J1 k j := fun k j hk => by rw [← hMJ2]; exact x_up_far hk
      have dJ2 : J2 143 16 = (0 + (pn n tx (a))) - 48 := by rw [← hMJ2, x_up_at]
      have aJ2 : J2 143 15 = ((a : Nat) : Int) := by rw [gJ2 _ _ (by omega)]; exact aJ1
      have fJ2 : ∀ k j, ¬ (k = 143 ∧ (j = 15 ∨ j = 16)) → J2 k j = I k j := fun k j hk => by rw [gJ2 k j (by omega), fJ1 k j (by omega)]
      have tJ2 : TXm J2 n tx := hT.fr (fJ2 _ _ (by omega)) (fun j => fJ2 _ _ (by omega))
      refine ex_st 3 (pc' := 52) (ls' := [(1, xi 0), (0, xr 143)]) (st' := [xi (J2 143 15), xr 143]) rfl ?_
      rw [aJ2]
      refine ex_st 2 (pc' := 54) (ls' := [(1, xi 0), (0, xr 143)]) (st' := [xi ((↑(a)) + 1), xr 143]) rfl ?_
      refine ex_pfi rfl (by decide) (rfl : xSH[143]? = some _) (by decide) rfl (by decide) (fun h => by cases h) ?_
      generalize hMJ3 : (x_up J2 143 15 ((↑(a)) + 1)) = J3
      have gJ3 : ∀ k j, ¬ (k = 143 ∧ j = 15) → J3 k j = J2 k j := fun k j hk => by rw [← hMJ3]; exact x_up_far hk
      have aJ3 : J3 143 15 = ((a + 1 : Nat) : Int) := by rw [← hMJ3, x_up_at]; rfl
      have dJ3 : J3 143 16 = (0 + (pn n tx (a))) - 48 := by rw [gJ3 _ _ (by omega)]; exact dJ2
      have fJ3 : ∀ k j, ¬ (k = 143 ∧ (j = 15 ∨ j = 16)) → J3 k j = I k j := fun k j hk => by rw [gJ3 k j (by omega), fJ2 k j (by omega)]
      have tJ3 : TXm J3 n tx := hT.fr (fJ3 _ _ (by omega)) (fun j => fJ3 _ _ (by omega))
      refine ex_st 4 (pc' := 18) (ls' := [(1, xi 1), (0, xr 143)]) (st' := [xi 2, xi 1]) rfl ?_
      refine ex_st 1 (pc' := 21) (ls' := [(1, xi 1), (0, xr 143)]) (st' := []) rfl ?_
      refine ex_st 1 (pc' := 22) (ls' := [(1, xi 1), (0, xr 143)]) (st' := [xr 143]) rfl ?_
      refine ex_inl (M' := xM_m_isDigit) (as := [xr 143]) (rest := []) (D' := 3) rfl (Nat.le_of_ble_eq_true rfl) (by decide) rfl ⟨rfl, rfl, rfl⟩ ⟨Nat.le_of_ble_eq_true rfl, rfl, rfl⟩ (Nat.le_of_ble_eq_true rfl) rfl ?_
      refine ex_st 2 (pc' := 2) (ls' := [(0, xr 143)]) (st' := [xr 143, xr 143]) rfl ?_
      have pq := pn_pg n tx (a + 1)
      have lq := hT.lt (a + 1)
      refine ex_call (ct_m_next (L := L) tJ3 aJ3 (by omega)) (by decide) rfl ⟨rfl, rfl, rfl⟩ ⟨Nat.le_of_ble_eq_true rfl, rfl, rfl⟩ (Nat.le_of_ble_eq_true rfl) rfl ?_
      refine ex_st 2 (pc' := 9) (ls' := [(0, xr 143)]) (st' := [xi 57, xi 48, xi (pn n tx (a + 1)), xr 143]) rfl ?_
      refine ex_call (ct_m_in (by first | omega | (constructor <;> omega) | assumption) (by first | omega | (constructor <;> omega) | assumption) (by first | omega | (constructor <;> omega) | assumption)) (by decide) rfl ⟨rfl, rfl, rfl⟩ ⟨Nat.le_of_ble_eq_true rfl, rfl, rfl⟩ (Nat.le_of_ble_eq_true rfl) rfl ?_
      refine ex_retz rfl (by first | exact x_b01 _ | omega) rfl ?_
      refine ex_beq rfl (fun h2 => ?_) (fun h2 => ?_)
      · refine ex_st 1 (pc' := 64) (ls' := [(1, xi 1), (0, xr 143)]) (st' := [xi 1]) rfl ?_
        refine ex_retz rfl (Or.inr rfl) rfl ?_
        have d1 : p_dg (pg n tx a) = true := by unfold p_dg; exact decide_eq_true ⟨by omega, by omega⟩
        have e9 : p_nm n tx a = (0 + (pn n tx (a))) - 48 ∧ p_na n tx a = a + 1 := by unfold p_nm p_na; rw [if_pos d1, if_pos d1, if_neg (by unfold p_dg; simp; omega), if_neg (by unfold p_dg; simp; omega)]; exact ⟨by omega, rfl⟩
        have b9 : 0 ≤ p_nm n tx a := by omega
        exact ⟨by unfold x_b; rw [if_pos b9], J3, rfl, by rw [e9.2]; exact aJ3, fun _ => by rw [e9.1]; exact dJ3, fJ3⟩
      · refine ex_st 4 (pc' := 35) (ls' := [(1, xi 1), (0, xr 143)]) (st' := [xi (J3 143 16), xi 10, xr 143]) rfl ?_
        rw [dJ3]
        refine ex_st 2 (pc' := 37) (ls' := [(1, xi 1), (0, xr 143)]) (st' := [xr 143, xi (10 * ((0 + (pn n tx (a))) - 48)), xr 143]) rfl ?_
        have pq := pn_pg n tx (a + 1)
        have lq := hT.lt (a + 1)
        refine ex_call (ct_m_next (L := L) tJ3 aJ3 (by omega)) (by decide) rfl ⟨rfl, rfl, rfl⟩ ⟨Nat.le_of_ble_eq_true rfl, rfl, rfl⟩ (Nat.le_of_ble_eq_true rfl) rfl ?_
        refine ex_st 3 (pc' := 44) (ls' := [(1, xi 1), (0, xr 143)]) (st' := [xi (((10 * ((0 + (pn n tx (a))) - 48)) + (pn n tx (a + 1))) - 48), xr 143]) rfl ?_
        refine ex_pfi rfl (by decide) (rfl : xSH[143]? = some _) (by decide) rfl (by decide) (fun h => by cases h) ?_
        generalize hMJ4 : (x_up J3 143 16 (((10 * ((0 + (pn n tx (a))) - 48)) + (pn n tx (a + 1))) - 48)) = J4
        have gJ4 : ∀ k j, ¬ (k = 143 ∧ j = 16) → J4 k j = J3 k j := fun k j hk => by rw [← hMJ4]; exact x_up_far hk
        have dJ4 : J4 143 16 = ((10 * ((0 + (pn n tx (a))) - 48)) + (pn n tx (a + 1))) - 48 := by rw [← hMJ4, x_up_at]
        have aJ4 : J4 143 15 = ((a + 1 : Nat) : Int) := by rw [gJ4 _ _ (by omega)]; exact aJ3
        have fJ4 : ∀ k j, ¬ (k = 143 ∧ (j = 15 ∨ j = 16)) → J4 k j = I k j := fun k j hk => by rw [gJ4 k j (by omega), fJ3 k j (by omega)]
        have tJ4 : TXm J4 n tx := hT.fr (fJ4 _ _ (by omega)) (fun j => fJ4 _ _ (by omega))
        refine ex_st 3 (pc' := 52) (ls' := [(1, xi 1), (0, xr 143)]) (st' := [xi (J4 143 15), xr 143]) rfl ?_
        rw [aJ4]
        refine ex_st 2 (pc' := 54) (ls' := [(1, xi 1), (0, xr 143)]) (st' := [xi ((↑(a + 1)) + 1), xr 143]) rfl ?_
        refine ex_pfi rfl (by decide) (rfl : xSH[143]? = some _) (by decide) rfl (by decide) (fun h => by cases h) ?_
        generalize hMJ5 : (x_up J4 143 15 ((↑(a + 1)) + 1)) = J5
        have gJ5 : ∀ k j, ¬ (k = 143 ∧ j = 15) → J5 k j = J4 k j := fun k j hk => by rw [← hMJ5]; exact x_up_far hk
        have aJ5 : J5 143 15 = ((a + 2 : Nat) : Int) := by rw [← hMJ5, x_up_at]; rfl
        have dJ5 : J5 143 16 = ((10 * ((0 + (pn n tx (a))) - 48)) + (pn n tx (a + 1))) - 48 := by rw [gJ5 _ _ (by omega)]; exact dJ4
        have fJ5 : ∀ k j, ¬ (k = 143 ∧ (j = 15 ∨ j = 16)) → J5 k j = I k j := fun k j hk => by rw [gJ5 k j (by omega), fJ4 k j (by omega)]
        have tJ5 : TXm J5 n tx := hT.fr (fJ5 _ _ (by omega)) (fun j => fJ5 _ _ (by omega))
        refine ex_st 4 (pc' := 18) (ls' := [(1, xi 2), (0, xr 143)]) (st' := [xi 2, xi 2]) rfl ?_
        refine ex_st 1 (pc' := 63) (ls' := [(1, xi 2), (0, xr 143)]) (st' := []) rfl ?_
        refine ex_st 1 (pc' := 64) (ls' := [(1, xi 2), (0, xr 143)]) (st' := [xi 1]) rfl ?_
        refine ex_retz rfl (Or.inr rfl) rfl ?_
        have d1 : p_dg (pg n tx a) = true := by unfold p_dg; exact decide_eq_true ⟨by omega, by omega⟩
        have d2 : p_dg (pg n tx (a + 1)) = true := by unfold p_dg; exact decide_eq_true ⟨by omega, by omega⟩
        have e9 : p_nm n tx a = ((10 * ((0 + (pn n tx (a))) - 48)) + (pn n tx (a + 1))) - 48 ∧ p_na n tx a = a + 2 := by unfold p_nm p_na; rw [if_pos d1, if_pos d1, if_pos d2, if_pos d2]; exact ⟨by omega, rfl⟩
        have b9 : 0 ≤ p_nm n tx a := by omega
        exact ⟨by unfold x_b; rw [if_pos b9], J5, rfl, by rw [e9.2]; exact aJ5, fun _ => by rw [e9.1]; exact dJ5, fJ5⟩
  · refine ex_st 1 (pc' := 8) (ls' := [(0, xr 143)]) (st' := [xi 0]) rfl ?_
    refine ex_retz rfl (Or.inl rfl) rfl ?_
    have e9 : p_nm n tx a = -1 ∧ p_na n tx a = a := by unfold p_nm p_na; rw [if_neg (by unfold p_dg; simp; omega), if_neg (by unfold p_dg; simp; omega)]; exact ⟨rfl, rfl⟩
    rw [e9.1, e9.2]
    exact ⟨rfl, I, rfl, ha, (fun q => absurd q (by decide)), (fun _ _ _ => rfl)⟩
theorem ct_m_place {sc : List Int} {I : Nat → Nat → Int} {L : Nat → Nat → Int64} {x : Int} {s : Nat} (hx : (x = (s : Int)) ∨ (x = -1 ∧ s = 0)) (hs : s < 128) : x_CE sc 1 xN_m_place [xr 143, xi x] (xSH, I, L) (some (xi (p_lt s))) (xSH, I, L) := by
  refine x_CE.of (M := xM_m_place) rfl (Nat.le_of_ble_eq_true rfl) ?_
  refine ex_st 1 (pc' := 1) (ls' := [(0, xr 143), (1, xi x)]) (st' := [xi x]) rfl ?_
  by_cases c103 : x = 103
  · refine ex_top c103 ?_
    refine ex_st 1 (pc' := 96) (ls' := [(0, xr 143), (1, xi x)]) (st' := []) rfl ?_
    refine ex_st 1 (pc' := 97) (ls' := [(0, xr 143), (1, xi x)]) (st' := [xi (4)]) rfl ?_
    refine ex_reti rfl rfl ?_
    exact ⟨x_req (by obtain rfl : s = 103 := by omega
                     rfl), rfl⟩
  by_cases c104 : x = 104
  · refine ex_top c104 ?_
    refine ex_st 1 (pc' := 100) (ls' := [(0, xr 143), (1, xi x)]) (st' := []) rfl ?_
    refine ex_st 1 (pc' := 101) (ls' := [(0, xr 143), (1, xi x)]) (st' := [xi (-1)]) rfl ?_
    refine ex_reti rfl rfl ?_
    exact ⟨x_req (by obtain rfl : s = 104 := by omega
                     rfl), rfl⟩
  by_cases c105 : x = 105
  · refine ex_top c105 ?_
    refine ex_st 1 (pc' := 100) (ls' := [(0, xr 143), (1, xi x)]) (st' := []) rfl ?_
    refine ex_st 1 (pc' := 101) (ls' := [(0, xr 143), (1, xi x)]) (st' := [xi (-1)]) rfl ?_
    refine ex_reti rfl rfl ?_
    exact ⟨x_req (by obtain rfl : s = 105 := by omega
                     rfl), rfl⟩
  by_cases c106 : x = 106
  · refine ex_top c106 ?_
    refine ex_st 1 (pc' := 100) (ls' := [(0, xr 143), (1, xi x)]) (st' := []) rfl ?_
    refine ex_st 1 (pc' := 101) (ls' := [(0, xr 143), (1, xi x)]) (st' := [xi (-1)]) rfl ?_
    refine ex_reti rfl rfl ?_
    exact ⟨x_req (by obtain rfl : s = 106 := by omega
                     rfl), rfl⟩
  by_cases c107 : x = 107
  · refine ex_top c107 ?_
    refine ex_st 1 (pc' := 90) (ls' := [(0, xr 143), (1, xi x)]) (st' := []) rfl ?_
    refine ex_st 1 (pc' := 91) (ls' := [(0, xr 143), (1, xi x)]) (st' := [xi (1)]) rfl ?_
    refine ex_reti rfl rfl ?_
    exact ⟨x_req (by obtain rfl : s = 107 := by omega
                     rfl), rfl⟩
  by_cases c108 : x = 108
  · refine ex_top c108 ?_
    refine ex_st 1 (pc' := 100) (ls' := [(0, xr 143), (1, xi x)]) (st' := []) rfl ?_
    refine ex_st 1 (pc' := 101) (ls' := [(0, xr 143), (1, xi x)]) (st' := [xi (-1)]) rfl ?_
    refine ex_reti rfl rfl ?_
    exact ⟨x_req (by obtain rfl : s = 108 := by omega
                     rfl), rfl⟩
  by_cases c109 : x = 109
  · refine ex_top c109 ?_
    refine ex_st 1 (pc' := 100) (ls' := [(0, xr 143), (1, xi x)]) (st' := []) rfl ?_
    refine ex_st 1 (pc' := 101) (ls' := [(0, xr 143), (1, xi x)]) (st' := [xi (-1)]) rfl ?_
    refine ex_reti rfl rfl ?_
    exact ⟨x_req (by obtain rfl : s = 109 := by omega
                     rfl), rfl⟩
  by_cases c110 : x = 110
  · refine ex_top c110 ?_
    refine ex_st 1 (pc' := 100) (ls' := [(0, xr 143), (1, xi x)]) (st' := []) rfl ?_
    refine ex_st 1 (pc' := 101) (ls' := [(0, xr 143), (1, xi x)]) (st' := [xi (-1)]) rfl ?_
    refine ex_reti rfl rfl ?_
    exact ⟨x_req (by obtain rfl : s = 110 := by omega
                     rfl), rfl⟩
  by_cases c111 : x = 111
  · refine ex_top c111 ?_
    refine ex_st 1 (pc' := 100) (ls' := [(0, xr 143), (1, xi x)]) (st' := []) rfl ?_
    refine ex_st 1 (pc' := 101) (ls' := [(0, xr 143), (1, xi x)]) (st' := [xi (-1)]) rfl ?_
    refine ex_reti rfl rfl ?_
    exact ⟨x_req (by obtain rfl : s = 111 := by omega
                     rfl), rfl⟩
  by_cases c112 : x = 112
  · refine ex_top c112 ?_
    refine ex_st 1 (pc' := 88) (ls' := [(0, xr 143), (1, xi x)]) (st' := []) rfl ?_
    refine ex_st 1 (pc' := 89) (ls' := [(0, xr 143), (1, xi x)]) (st' := [xi (0)]) rfl ?_
    refine ex_reti rfl rfl ?_
    exact ⟨x_req (by obtain rfl : s = 112 := by omega
                     rfl), rfl⟩
  by_cases c113 : x = 113
  · refine ex_top c113 ?_
    refine ex_st 1 (pc' := 100) (ls' := [(0, xr 143), (1, xi x)]) (st' := []) rfl ?_
    refine ex_st 1 (pc' := 101) (ls' := [(0, xr 143), (1, xi x)]) (st' := [xi (-1)]) rfl ?_
    refine ex_reti rfl rfl ?_
    exact ⟨x_req (by obtain rfl : s = 113 := by omega
                     rfl), rfl⟩
  by_cases c114 : x = 114
  · refine ex_top c114 ?_
    refine ex_st 1 (pc' := 100) (ls' := [(0, xr 143), (1, xi x)]) (st' := []) rfl ?_
    refine ex_st 1 (pc' := 101) (ls' := [(0, xr 143), (1, xi x)]) (st' := [xi (-1)]) rfl ?_
    refine ex_reti rfl rfl ?_
    exact ⟨x_req (by obtain rfl : s = 114 := by omega
                     rfl), rfl⟩
  by_cases c115 : x = 115
  · refine ex_top c115 ?_
    refine ex_st 1 (pc' := 98) (ls' := [(0, xr 143), (1, xi x)]) (st' := []) rfl ?_
    refine ex_st 1 (pc' := 99) (ls' := [(0, xr 143), (1, xi x)]) (st' := [xi (5)]) rfl ?_
    refine ex_reti rfl rfl ?_
    exact ⟨x_req (by obtain rfl : s = 115 := by omega
                     rfl), rfl⟩
  by_cases c116 : x = 116
  · refine ex_top c116 ?_
    refine ex_st 1 (pc' := 100) (ls' := [(0, xr 143), (1, xi x)]) (st' := []) rfl ?_
    refine ex_st 1 (pc' := 101) (ls' := [(0, xr 143), (1, xi x)]) (st' := [xi (-1)]) rfl ?_
    refine ex_reti rfl rfl ?_
    exact ⟨x_req (by obtain rfl : s = 116 := by omega
                     rfl), rfl⟩
  by_cases c117 : x = 117
  · refine ex_top c117 ?_
    refine ex_st 1 (pc' := 100) (ls' := [(0, xr 143), (1, xi x)]) (st' := []) rfl ?_
    refine ex_st 1 (pc' := 101) (ls' := [(0, xr 143), (1, xi x)]) (st' := [xi (-1)]) rfl ?_
    refine ex_reti rfl rfl ?_
    exact ⟨x_req (by obtain rfl : s = 117 := by omega
                     rfl), rfl⟩
  by_cases c118 : x = 118
  · refine ex_top c118 ?_
    refine ex_st 1 (pc' := 92) (ls' := [(0, xr 143), (1, xi x)]) (st' := []) rfl ?_
    refine ex_st 1 (pc' := 93) (ls' := [(0, xr 143), (1, xi x)]) (st' := [xi (2)]) rfl ?_
    refine ex_reti rfl rfl ?_
    exact ⟨x_req (by obtain rfl : s = 118 := by omega
                     rfl), rfl⟩
  by_cases c119 : x = 119
  · refine ex_top c119 ?_
    refine ex_st 1 (pc' := 100) (ls' := [(0, xr 143), (1, xi x)]) (st' := []) rfl ?_
    refine ex_st 1 (pc' := 101) (ls' := [(0, xr 143), (1, xi x)]) (st' := [xi (-1)]) rfl ?_
    refine ex_reti rfl rfl ?_
    exact ⟨x_req (by obtain rfl : s = 119 := by omega
                     rfl), rfl⟩
  by_cases c120 : x = 120
  · refine ex_top c120 ?_
    refine ex_st 1 (pc' := 94) (ls' := [(0, xr 143), (1, xi x)]) (st' := []) rfl ?_
    refine ex_st 1 (pc' := 95) (ls' := [(0, xr 143), (1, xi x)]) (st' := [xi (3)]) rfl ?_
    refine ex_reti rfl rfl ?_
    exact ⟨x_req (by obtain rfl : s = 120 := by omega
                     rfl), rfl⟩
  refine ex_tsd rfl (by rcases hx with q | ⟨q, q2⟩ <;> constructor <;> omega) (by omega) ?_
  refine ex_st 1 (pc' := 101) (ls' := [(0, xr 143), (1, xi x)]) (st' := [xi (-1)]) rfl ?_
  refine ex_reti rfl rfl ?_
  exact ⟨x_req (by unfold p_lt; repeat' split
                   all_goals omega), rfl⟩
/-- a code of the class's as the reference writes it -/
def mcd (x : Int) : Int := if x = -1 then -33 else if x = -2 then -38 else if x = -3 then -124 else 1000 * (x / 300) + 100 * (x / 100 % 3) + x % 100
theorem VC.tc {x : Int} (h : VC x) : TC x (mcd x) := by
  rcases h with rfl | rfl | rfl | ⟨l, r, m, hl, hr, hm, rfl⟩
  · exact Or.inl ⟨rfl, rfl⟩
  · exact Or.inr (Or.inl ⟨rfl, rfl⟩)
  · exact Or.inr (Or.inr (Or.inl ⟨rfl, rfl⟩))
  · refine Or.inr (Or.inr (Or.inr ⟨l, r, m, hl, hr, hm, rfl, ?_⟩))
    unfold mcd
    rw [if_neg (by omega), if_neg (by omega), if_neg (by omega)]
    omega
theorem ct_m_takesTest {sc : List Int} {I : Nat → Nat → Int} {L : Nat → Nat → Int64} {n : Nat} {tx : Nat → Nat} {b a : Nat} {rc : List Int} {W : List Nat} (hR : RSt I n tx b a rc W) (hcW : ∀ c, c ∈ W → c < 128) : x_CQ sc 8 xN_m_takesTest [xr 143] (xSH, I, L) (fun r m' => r = some (xi (x_b ((p_test n tx a).2.2 = true))) ∧ ∃ I', m' = (xSH, I', L) ∧ FRm b I I' ∧ I' 143 15 = (((p_test n tx a).1 : Nat) : Int) ∧ ((p_test n tx a).2.2 = true → RSt I' n tx b (p_test n tx a).1 (rc ++ (p_test n tx a).2.1.map mcd ++ p_wc W) (p_wr W))) := by
  have hR2 := hR
  obtain ⟨hT, ha, han, hC, hb, hW, hWT, hO, hl⟩ := hR
  have hn := hT.2.1
  have h128 := hT.lt a
  have h129 := hT.lt (a + 1)
  have p0 := pn_pg n tx a
  have p1 := pn_pg n tx (a + 1)
  have bl := p_lt_bd (pg n tx a)
  refine x_CQ.of (M := xM_m_takesTest) rfl (Nat.le_of_ble_eq_true rfl) ?_
  refine ex_st 2 (pc' := 2) (ls' := [(0, xr 143)]) (st' := [xr 143, xr 143]) rfl ?_
  refine ex_call (ct_m_next (L := L) hT ha han) (by decide) rfl ⟨rfl, rfl, rfl⟩ ⟨Nat.le_of_ble_eq_true rfl, rfl, rfl⟩ (Nat.le_of_ble_eq_true rfl) rfl ?_
  refine ex_call (ct_m_place (L := L) (s := pg n tx a) (by omega) h128) (by decide) rfl ⟨rfl, rfl, rfl⟩ ⟨Nat.le_of_ble_eq_true rfl, rfl, rfl⟩ (Nat.le_of_ble_eq_true rfl) rfl ?_
  obtain ⟨lt, hlt⟩ : ∃ lt, lt = p_lt (pg n tx a) := ⟨_, rfl⟩
  rw [← hlt]
  rw [← hlt] at bl
  refine ex_st 2 (pc' := 10) (ls' := [(1, xi lt), (0, xr 143)]) (st' := [xi lt]) rfl ?_
  refine ex_if rfl (by constructor <;> omega) (fun (h0 : 0 ≤ lt) => ?_) (fun (h0 : ¬ 0 ≤ lt) => ?_)
  rotate_left
  · have e : p_test n tx a = (a, [], false) := by unfold p_test; rw [if_pos (by omega)]
    refine ex_st 1 (pc' := 14) (ls' := [(1, xi lt), (0, xr 143)]) (st' := [xi 0]) rfl ?_
    refine ex_retz rfl (Or.inl rfl) rfl ?_
    rw [e]
    exact ⟨rfl, I, rfl, FRm.rfl', ha, fun q => by cases q⟩
  have k1 := pg_lt (n := n) (tx := tx) (a := a) (p_lt_pg (by omega))
  refine ex_st 3 (pc' := 20) (ls' := [(1, xi lt), (0, xr 143)]) (st' := [xi (I 143 15), xr 143]) rfl ?_
  rw [ha]
  refine ex_st 2 (pc' := 22) (ls' := [(1, xi lt), (0, xr 143)]) (st' := [xi (↑a + 1), xr 143]) rfl ?_
  refine ex_pfi rfl (by decide) (rfl : xSH[143]? = some _) (by decide) rfl (by decide) (fun h => by cases h) ?_
  generalize hM : x_up I 143 15 (↑a + 1) = I1
  have a1 : I1 143 15 = ((a + 1 : Nat) : Int) := by rw [← hM, x_up_at]; rfl
  have f1 : ∀ k j, ¬ (k = 143 ∧ (j = 15 ∨ j = 16)) → I1 k j = I k j := fun k j hk => by rw [← hM, x_up_far (by omega)]
  have T1 : TXm I1 n tx := hT.fr (f1 _ _ (by omega)) (fun j => f1 _ _ (by omega))
  refine ex_st 1 (pc' := 26) (ls' := [(1, xi lt), (0, xr 143)]) (st' := [xr 143]) rfl ?_
  refine ex_call (ct_m_next (L := L) T1 a1 k1) (by decide) rfl ⟨rfl, rfl, rfl⟩ ⟨Nat.le_of_ble_eq_true rfl, rfl, rfl⟩ (Nat.le_of_ble_eq_true rfl) rfl ?_
  obtain ⟨x, hx⟩ : ∃ x, x = pn n tx (a + 1) := ⟨_, rfl⟩
  rw [← hx]
  rw [← hx] at p1
  refine ex_st 5 (pc' := 36) (ls' := [(2, xi x), (1, xi lt), (0, xr 143)]) (st' := [xi 62, xi 60, xi x, xr 143]) rfl ?_
  refine ex_call (ct_m_in (by constructor <;> omega) (by decide) (by decide)) (by decide) rfl ⟨rfl, rfl, rfl⟩ ⟨Nat.le_of_ble_eq_true rfl, rfl, rfl⟩ (Nat.le_of_ble_eq_true rfl) rfl ?_
  refine ex_bne rfl (fun h1 => ?_) (fun h1 => ?_)
  rotate_left
  · have e : p_test n tx a = (a + 1, [], false) := by unfold p_test; rw [if_neg (by omega), if_pos (by omega)]
    refine ex_st 1 (pc' := 43) (ls' := [(2, xi x), (1, xi lt), (0, xr 143)]) (st' := [xi 0]) rfl ?_
    refine ex_retz rfl (Or.inl rfl) rfl ?_
    rw [e]
    exact ⟨rfl, I1, rfl, fun k j hk => f1 k j (by omega), a1, fun q => by cases q⟩
  have k2 : a + 1 < n := by omega
  have hx2 : x = ((pg n tx (a + 1) : Nat) : Int) := by omega
  refine ex_st 3 (pc' := 49) (ls' := [(2, xi x), (1, xi lt), (0, xr 143)]) (st' := [xi (I1 143 15), xr 143]) rfl ?_
  rw [a1]
  refine ex_st 2 (pc' := 51) (ls' := [(2, xi x), (1, xi lt), (0, xr 143)]) (st' := [xi (↑(a + 1) + 1), xr 143]) rfl ?_
  refine ex_pfi rfl (by decide) (rfl : xSH[143]? = some _) (by decide) rfl (by decide) (fun h => by cases h) ?_
  generalize hM2 : x_up I1 143 15 (↑(a + 1) + 1) = I2
  have a2 : I2 143 15 = ((a + 2 : Nat) : Int) := by rw [← hM2, x_up_at]; rfl
  have f2 : ∀ k j, ¬ (k = 143 ∧ (j = 15 ∨ j = 16)) → I2 k j = I k j := fun k j hk => by rw [← hM2, x_up_far (by omega)]; exact f1 k j hk
  have T2 : TXm I2 n tx := hT.fr (f2 _ _ (by omega)) (fun j => f2 _ _ (by omega))
  have b2 := p_nm_bd n tx (a + 2)
  have b3 := p_na_bd (n := n) (tx := tx) (a := a + 2) (by omega)
  refine ex_st 1 (pc' := 55) (ls' := [(2, xi x), (1, xi lt), (0, xr 143)]) (st' := [xr 143]) rfl ?_
  refine ex_callQ (ct_m_takesNumber (L := L) T2 a2 k2) (by decide) rfl ⟨rfl, rfl, rfl⟩ ⟨Nat.le_of_ble_eq_true rfl, rfl, rfl⟩ (Nat.le_of_ble_eq_true rfl) rfl (fun ra m2 hQ => ?_)
  obtain ⟨rfl, I3, rfl, a3, d3, g3⟩ := hQ
  have f3 : ∀ k j, ¬ (k = 143 ∧ (j = 15 ∨ j = 16)) → I3 k j = I k j := fun k j hk => by rw [g3 k j hk, f2 k j hk]
  refine ex_bne rfl (fun h2 => ?_) (fun h2 => ?_)
  rotate_left
  · have e : p_test n tx a = (a + 2, [], false) := by unfold p_test; rw [if_neg (by omega), if_neg (by omega), if_pos (by omega)]
    refine ex_st 1 (pc' := 62) (ls' := [(2, xi x), (1, xi lt), (0, xr 143)]) (st' := [xi 0]) rfl ?_
    refine ex_retz rfl (Or.inl rfl) rfl ?_
    rw [e]
    exact ⟨rfl, I3, rfl, fun k j hk => f3 k j (by omega), by rw [a3, p_nm_na n tx (a + 2) (by omega)], fun q => by cases q⟩
  have e : p_test n tx a = (p_na n tx (a + 2), [(p_lt (pg n tx a) * 3 + ((pg n tx (a + 1) : Int) - 60)) * 100 + p_nm n tx (a + 2)], true) := by unfold p_test; rw [if_neg (by omega), if_neg (by omega), if_neg (by omega)]
  have b4 := b3.2.2 h2
  refine ex_st 11 (pc' := 78) (ls' := [(2, xi x), (1, xi lt), (0, xr 143)]) (st' := [xr 143, xi (1000 * lt + 100 * (x - 60)), xr 143]) rfl ?_
  refine ex_st 1 (pc' := 81) (ls' := [(2, xi x), (1, xi lt), (0, xr 143)]) (st' := [xi (I3 143 16), xi (1000 * lt + 100 * (x - 60)), xr 143]) rfl ?_
  rw [d3 h2]
  refine ex_st 1 (pc' := 82) (ls' := [(2, xi x), (1, xi lt), (0, xr 143)]) (st' := [xi (1000 * lt + 100 * (x - 60) + p_nm n tx (a + 2)), xr 143]) rfl ?_
  have hmc : 1000 * lt + 100 * (x - 60) + p_nm n tx (a + 2) = mcd ((p_lt (pg n tx a) * 3 + ((pg n tx (a + 1) : Int) - 60)) * 100 + p_nm n tx (a + 2)) := by
    unfold mcd
    rw [← hlt, ← hx2, if_neg (by omega), if_neg (by omega), if_neg (by omega)]
    omega
  rw [hmc]
  refine ex_callQ (ct_m_emits (L := L) (hC.fr (f3 _ _ (by omega)) (fun j => f3 _ _ (by omega))) (by omega) hb) (by decide) rfl ⟨rfl, rfl, rfl⟩ ⟨Nat.le_of_ble_eq_true rfl, rfl, rfl⟩ (Nat.le_of_ble_eq_true rfl) rfl (fun ra m2 hQ => ?_)
  obtain ⟨rfl, I4, rfl, C4, g4⟩ := hQ
  have f4 : FRm b I I4 := fun k j hk => by rw [g4 k j (by omega), f3 k j (by omega)]
  have hlr : (rc ++ [mcd ((p_lt (pg n tx a) * 3 + ((pg n tx (a + 1) : Int) - 60)) * 100 + p_nm n tx (a + 2))]).length = rc.length + 1 := by simp
  have R4 : RSt I4 n tx b (p_na n tx (a + 2)) (rc ++ [mcd ((p_lt (pg n tx a) * 3 + ((pg n tx (a + 1) : Int) - 60)) * 100 + p_nm n tx (a + 2))]) W := ⟨hT.fr (f4 _ _ (by omega)) (fun j => f4 _ _ (by omega)), by rw [g4 _ _ (by omega)]; exact a3, b3.2.1, C4, hb, by rw [g4 _ _ (by omega), f3 _ _ (by omega)]; exact hW, hWT.fr (fun j hj => by rw [g4 _ _ (by omega), f3 _ _ (by omega)]), by rw [g4 _ _ (by omega), f3 _ _ (by omega)]; exact hO, by omega⟩
  refine ex_st 1 (pc' := 86) (ls' := [(2, xi x), (1, xi lt), (0, xr 143)]) (st' := [xr 143]) rfl ?_
  refine ex_callQ (ct_m_whole (L := L) hcW R4) (by decide) rfl ⟨rfl, rfl, rfl⟩ ⟨Nat.le_of_ble_eq_true rfl, rfl, rfl⟩ (Nat.le_of_ble_eq_true rfl) rfl (fun ra m2 hQ => ?_)
  obtain ⟨rfl, I5, rfl, R5, f5⟩ := hQ
  refine ex_st 1 (pc' := 90) (ls' := [(2, xi x), (1, xi lt), (0, xr 143)]) (st' := [xi 1]) rfl ?_
  refine ex_retz rfl (Or.inr rfl) rfl ?_
  rw [e]
  exact ⟨rfl, I5, rfl, f4.trans f5, R5.2.1, fun _ => R5⟩

