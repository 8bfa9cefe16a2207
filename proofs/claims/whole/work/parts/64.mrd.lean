/-! the reference's reader -/
def TXm (I : Nat → Nat → Int) (n : Nat) (tx : Nat → Nat) : Prop := I 143 14 = (n : Int) ∧ n ≤ 100 ∧ ∀ j, j < n → I 151 j = (tx j : Int) ∧ tx j < 128
def pn (n : Nat) (tx : Nat → Nat) (a : Nat) : Int := if a < n then (tx a : Int) else -1
theorem pn_pg (n : Nat) (tx : Nat → Nat) (a : Nat) : (a < n ∧ pn n tx a = ((pg n tx a : Nat) : Int)) ∨ (¬ a < n ∧ pn n tx a = -1 ∧ pg n tx a = 0) := by
  unfold pn pg
  by_cases h : a < n
  · rw [if_pos h, if_pos h]; exact Or.inl ⟨h, rfl⟩
  · rw [if_neg h, if_neg h]; exact Or.inr ⟨h, rfl, rfl⟩
theorem TXm.lt {I : Nat → Nat → Int} {n : Nat} {tx : Nat → Nat} (h : TXm I n tx) (p : Nat) : pg n tx p < 128 := by
  unfold pg
  split
  · exact (h.2.2 p (by assumption)).2
  · decide
theorem TXm.fr {I I' : Nat → Nat → Int} {n : Nat} {tx : Nat → Nat} (h : TXm I n tx) (e1 : I' 143 14 = I 143 14) (e : ∀ j, I' 151 j = I 151 j) : TXm I' n tx :=
  ⟨by rw [e1]; exact h.1, h.2.1, fun j hj => by rw [e]; exact h.2.2 j hj⟩
theorem ct_m_next {sc : List Int} {I : Nat → Nat → Int} {L : Nat → Nat → Int64} {n : Nat} {tx : Nat → Nat} (hT : TXm I n tx) {a : Nat} (ha : I 143 15 = (a : Int)) (han : a ≤ n) : x_CE sc 1 xN_m_next [xr 143] (xSH, I, L) (some (xi (pn n tx a))) (xSH, I, L) := by
  obtain ⟨h1, h2, h3⟩ := hT
  refine x_CE.of (M := xM_m_next) rfl (Nat.le_of_ble_eq_true rfl) ?_
  refine ex_st 2 (pc' := 4) (ls' := [(0, xr 143)]) (st' := [xi (I 143 15)]) rfl ?_
  rw [ha]
  refine ex_st 2 (pc' := 8) (ls' := [(0, xr 143)]) (st' := [xi (I 143 14), xi (↑a)]) rfl ?_
  rw [h1]
  refine ex_ic rfl (by constructor <;> omega) (by constructor <;> omega) (fun (h4 : (↑n : Int) ≤ (↑a : Int)) => ?_) (fun (h4 : ¬ (↑n : Int) ≤ (↑a : Int)) => ?_)
  · refine ex_st 1 (pc' := 24) (ls' := [(0, xr 143)]) (st' := [xi (-1)]) rfl ?_
    refine ex_reti rfl rfl ?_
    exact ⟨by unfold pn; rw [if_neg (by omega)], rfl⟩
  · refine ex_st 4 (pc' := 19) (ls' := [(0, xr 143)]) (st' := [xi (I 143 15), xr 151]) rfl ?_
    rw [ha]
    refine ex_iald (j := a) rfl (by decide) (rfl : xSH[151]? = some _) rfl (by omega) (by decide) ?_
    rw [(h3 a (by omega)).1]
    refine ex_st 1 (pc' := 24) (ls' := [(0, xr 143)]) (st' := [xi (↑(tx a))]) rfl ?_
    refine ex_reti rfl rfl ?_
    exact ⟨by unfold pn; rw [if_pos (by omega)], rfl⟩
theorem ct_m_second {sc : List Int} {I : Nat → Nat → Int} {L : Nat → Nat → Int64} {n : Nat} {tx : Nat → Nat} (hT : TXm I n tx) {a : Nat} (ha : I 143 15 = (a : Int)) (han : a ≤ n) : x_CE sc 1 xN_m_second [xr 143] (xSH, I, L) (some (xi (pn n tx (a + 1)))) (xSH, I, L) := by
  obtain ⟨h1, h2, h3⟩ := hT
  refine x_CE.of (M := xM_m_second) rfl (Nat.le_of_ble_eq_true rfl) ?_
  refine ex_st 2 (pc' := 4) (ls' := [(0, xr 143)]) (st' := [xi (I 143 15)]) rfl ?_
  rw [ha]
  refine ex_st 4 (pc' := 10) (ls' := [(0, xr 143)]) (st' := [xi (I 143 14), xi (↑a + 1)]) rfl ?_
  rw [h1, show ((a : Nat) : Int) + 1 = ((a + 1 : Nat) : Int) from rfl]
  refine ex_ic rfl (by constructor <;> omega) (by constructor <;> omega) (fun (h4 : (↑n : Int) ≤ (↑(a + 1) : Int)) => ?_) (fun (h4 : ¬ (↑n : Int) ≤ (↑(a + 1) : Int)) => ?_)
  · refine ex_st 1 (pc' := 28) (ls' := [(0, xr 143)]) (st' := [xi (-1)]) rfl ?_
    refine ex_reti rfl rfl ?_
    exact ⟨by unfold pn; rw [if_neg (by omega)], rfl⟩
  · refine ex_st 4 (pc' := 21) (ls' := [(0, xr 143)]) (st' := [xi (I 143 15), xr 151]) rfl ?_
    rw [ha]
    refine ex_st 2 (pc' := 23) (ls' := [(0, xr 143)]) (st' := [xi (↑a + 1), xr 151]) rfl ?_
    refine ex_iald (j := a + 1) rfl (by decide) (rfl : xSH[151]? = some _) rfl (by omega) (by decide) ?_
    rw [(h3 (a + 1) (by omega)).1]
    refine ex_st 1 (pc' := 28) (ls' := [(0, xr 143)]) (st' := [xi (↑(tx (a + 1)))]) rfl ?_
    refine ex_reti rfl rfl ?_
    exact ⟨by unfold pn; rw [if_pos (by omega)], rfl⟩
theorem ct_m_takes_n {sc : List Int} {I : Nat → Nat → Int} {L : Nat → Nat → Int64} {n : Nat} {tx : Nat → Nat} (hT : TXm I n tx) {a : Nat} (ha : I 143 15 = (a : Int)) (han : a ≤ n) {c : Nat} (hc : 0 < c ∧ c < 128) (h : pg n tx a ≠ c) : x_CE sc 2 xN_m_takes [xr 143, xi (↑c)] (xSH, I, L) (some (xi 0)) (xSH, I, L) := by
  have h128 := hT.lt a
  have hp := pn_pg n tx a
  refine x_CE.of (M := xM_m_takes) rfl (Nat.le_of_ble_eq_true rfl) ?_
  refine ex_st 1 (pc' := 1) (ls' := [(0, xr 143), (1, xi (↑c))]) (st' := [xr 143]) rfl ?_
  refine ex_call (ct_m_next hT ha han) (by decide) rfl ⟨rfl, rfl, rfl⟩ ⟨Nat.le_of_ble_eq_true rfl, rfl, rfl⟩ (Nat.le_of_ble_eq_true rfl) rfl ?_
  refine ex_st 1 (pc' := 5) (ls' := [(0, xr 143), (1, xi (↑c))]) (st' := [xi (↑c), xi (pn n tx a)]) rfl ?_
  refine ex_ic rfl (by constructor <;> omega) (by constructor <;> omega) (fun (h4 : pn n tx a = (↑c : Int)) => ?_) (fun (h4 : ¬ pn n tx a = (↑c : Int)) => ?_)
  · exfalso; omega
  · refine ex_st 1 (pc' := 9) (ls' := [(0, xr 143), (1, xi (↑c))]) (st' := [xi 0]) rfl ?_
    refine ex_retz rfl (Or.inl rfl) rfl ?_
    exact ⟨rfl, rfl⟩
theorem ct_m_takes_y {sc : List Int} {I : Nat → Nat → Int} {L : Nat → Nat → Int64} {n : Nat} {tx : Nat → Nat} (hT : TXm I n tx) {a : Nat} (ha : I 143 15 = (a : Int)) (han : a ≤ n) {c : Nat} (hc : 0 < c ∧ c < 128) (h : pg n tx a = c) : x_CQ sc 2 xN_m_takes [xr 143, xi (↑c)] (xSH, I, L) (fun r m' => r = some (xi 1) ∧ ∃ I', m' = (xSH, I', L) ∧ I' 143 15 = ((a + 1 : Nat) : Int) ∧ ∀ k j, ¬ (k = 143 ∧ j = 15) → I' k j = I k j) := by
  have h128 := hT.lt a
  have hp := pn_pg n tx a
  refine x_CQ.of (M := xM_m_takes) rfl (Nat.le_of_ble_eq_true rfl) ?_
  refine ex_st 1 (pc' := 1) (ls' := [(0, xr 143), (1, xi (↑c))]) (st' := [xr 143]) rfl ?_
  refine ex_call (ct_m_next hT ha han) (by decide) rfl ⟨rfl, rfl, rfl⟩ ⟨Nat.le_of_ble_eq_true rfl, rfl, rfl⟩ (Nat.le_of_ble_eq_true rfl) rfl ?_
  refine ex_st 1 (pc' := 5) (ls' := [(0, xr 143), (1, xi (↑c))]) (st' := [xi (↑c), xi (pn n tx a)]) rfl ?_
  refine ex_ic rfl (by constructor <;> omega) (by constructor <;> omega) (fun (h4 : pn n tx a = (↑c : Int)) => ?_) (fun (h4 : ¬ pn n tx a = (↑c : Int)) => ?_)
  · refine ex_st 3 (pc' := 15) (ls' := [(0, xr 143), (1, xi (↑c))]) (st' := [xi (I 143 15), xr 143]) rfl ?_
    rw [ha]
    refine ex_st 2 (pc' := 17) (ls' := [(0, xr 143), (1, xi (↑c))]) (st' := [xi (↑a + 1), xr 143]) rfl ?_
    refine ex_pfi rfl (by decide) (rfl : xSH[143]? = some _) (by decide) rfl (by decide) (fun h => by cases h) ?_
    refine ex_st 1 (pc' := 21) (ls' := [(0, xr 143), (1, xi (↑c))]) (st' := [xi 1]) rfl ?_
    refine ex_retz rfl (Or.inr rfl) rfl ?_
    exact ⟨rfl, _, rfl, by rw [x_up_at]; rfl, fun k j hk => x_up_far hk⟩
  · exfalso; omega
def LTs (I : Nat → Nat → Int) : Prop := ∀ x, x < 15 → I 159 x = (([108, 105, 107, 101, 108, 111, 97, 116, 104, 101, 113, 117, 111, 116, 97] : List Int)[x]?).getD 0
/-- codes laid from b on -/
def RDm (I : Nat → Nat → Int) (b : Nat) (rc : List Int) : Prop := I 143 25 = ((b + rc.length : Nat) : Int) ∧ ∀ j, j < rc.length → I 157 (b + j) = (rc[j]?).getD 0
theorem RDm.fr {I I' : Nat → Nat → Int} {b : Nat} {rc : List Int} (h : RDm I b rc) (e1 : I' 143 25 = I 143 25) (e : ∀ j, I' 157 j = I 157 j) : RDm I' b rc :=
  ⟨by rw [e1]; exact h.1, fun j hj => by rw [e]; exact h.2 j hj⟩
theorem ct_m_emits {sc : List Int} {I : Nat → Nat → Int} {L : Nat → Nat → Int64} {b : Nat} {rc : List Int} (hR : RDm I b rc) (hl : rc.length < 100) (hb : b ≤ 500) {s : Int} : x_CQ sc 1 xN_m_emits [xr 143, xi s] (xSH, I, L) (fun r m' => r = none ∧ ∃ I', m' = (xSH, I', L) ∧ RDm I' b (rc ++ [s]) ∧ ∀ k j, ¬ ((k = 143 ∧ j = 25) ∨ (k = 157 ∧ b ≤ j ∧ j < b + 100)) → I' k j = I k j) := by
  obtain ⟨h1, h2⟩ := hR
  refine x_CQ.of (M := xM_m_emits) rfl (Nat.le_of_ble_eq_true rfl) ?_
  refine ex_st 4 (pc' := 8) (ls' := [(0, xr 143), (1, xi s)]) (st' := [xi (I 143 25), xr 157]) rfl ?_
  rw [h1]
  refine ex_st 1 (pc' := 9) (ls' := [(0, xr 143), (1, xi s)]) (st' := [xi s, xi (↑(b + rc.length)), xr 157]) rfl ?_
  refine ex_iast (j := b + rc.length) rfl (by decide) (rfl : xSH[157]? = some _) rfl (by omega) (by decide) ?_
  refine ex_st 3 (pc' := 15) (ls' := [(0, xr 143), (1, xi s)]) (st' := [xi ((x_up I 157 (b + rc.length) s) 143 25), xr 143]) rfl ?_
  rw [x_up_far (k := 143) (j := 25) (by omega), h1]
  refine ex_st 2 (pc' := 17) (ls' := [(0, xr 143), (1, xi s)]) (st' := [xi (↑(b + rc.length) + 1), xr 143]) rfl ?_
  refine ex_pfi rfl (by decide) (rfl : xSH[143]? = some _) (by decide) rfl (by decide) (fun h => by cases h) ?_
  refine ex_retv rfl rfl ?_
  refine ⟨rfl, _, rfl, ⟨?_, fun j hj => ?_⟩, fun k j hk => by rw [x_up_far (by omega), x_up_far (by omega)]⟩
  · rw [x_up_at]; simp; omega
  · rw [sp_app, x_up_far (by omega)]
    by_cases e : j = rc.length
    · rw [if_pos e, x_up_at2 rfl (by omega)]
    · rw [if_neg e, x_up_far (by omega)]
      exact h2 j (by simp at hj; omega)
/-- what waits, the newest first -/
def WTm (I : Nat → Nat → Int) : List Nat → Prop
  | [] => True
  | c :: w => I 158 w.length = (c : Int) ∧ WTm I w
theorem WTm.fr {I I' : Nat → Nat → Int} : ∀ {W : List Nat}, WTm I W → (∀ j, j < W.length → I' 158 j = I 158 j) → WTm I' W
  | [], _, _ => trivial
  | _ :: w, h, e => ⟨by rw [e _ (by simp)]; exact h.1, h.2.fr (fun j hj => e j (by simp; omega))⟩
def opn : List Nat → Nat
  | [] => 0
  | c :: w => (if c = 33 ∨ c = 40 then 1 else 0) + opn w
theorem opn_le : ∀ W, opn W ≤ W.length
  | [] => Nat.le_refl _
  | c :: w => by have := opn_le w; simp only [opn, List.length_cons]; split <;> omega
/-- the state of the reference's reader -/
def RSt (I : Nat → Nat → Int) (n : Nat) (tx : Nat → Nat) (b a : Nat) (rc : List Int) (W : List Nat) : Prop := TXm I n tx ∧ I 143 15 = (a : Int) ∧ a ≤ n ∧ RDm I b rc ∧ b ≤ 500 ∧ I 143 26 = ((W.length : Nat) : Int) ∧ WTm I W ∧ I 143 27 = ((opn W : Nat) : Int) ∧ W.length + rc.length ≤ a
/-- the cells that it writes -/
def FRm (b : Nat) (I I' : Nat → Nat → Int) : Prop := ∀ k j, ¬ ((k = 143 ∧ (j = 15 ∨ j = 16 ∨ j = 25 ∨ j = 26 ∨ j = 27)) ∨ (k = 157 ∧ b ≤ j ∧ j < b + 100) ∨ k = 158) → I' k j = I k j
theorem FRm.trans {b : Nat} {I I' I'' : Nat → Nat → Int} (h1 : FRm b I I') (h2 : FRm b I' I'') : FRm b I I'' := fun k j hk => by rw [h2 k j hk, h1 k j hk]
theorem FRm.rfl' {b : Nat} {I : Nat → Nat → Int} : FRm b I I := fun _ _ _ => rfl
/-- whole() -/
def p_wr : List Nat → List Nat
  | [] => []
  | c :: w => if c = 33 then p_wr w else c :: w
def p_wc : List Nat → List Int
  | [] => []
  | c :: w => if c = 33 then -33 :: p_wc w else []
theorem lp_mwh {sc : List Int} {L : Nat → Nat → Int64} {n : Nat} {tx : Nat → Nat} {b a : Nat} {Q : Option xPV → xMem → Prop} : ∀ (W : List Nat) (rc : List Int) (I : Nat → Nat → Int), (∀ c, c ∈ W → c < 128) → RSt I n tx b a rc W → (∀ I' : Nat → Nat → Int, RSt I' n tx b a (rc ++ p_wc W) (p_wr W) → FRm b I I' → Q none (xSH, I', L)) → x_Ex sc 1 xM_m_whole 0 [(0, xr 143)] [] (xSH, I, L) Q
  | [], rc, I, _, hR, kk => by
    have hR2 := hR
    obtain ⟨hT, ha, han, hC, hb, hW, hWT, hO, hl⟩ := hR
    refine ex_st 2 (pc' := 4) (ls' := [(0, xr 143)]) (st' := [xi (I 143 26)]) rfl ?_
    rw [hW]
    refine ex_if rfl (by decide) (fun _ => ?_) (fun (h : ¬ ((([] : List Nat).length : Nat) : Int) ≤ 0) => absurd (by decide) h)
    refine ex_retv rfl rfl ?_
    exact kk I (by simpa [p_wc, p_wr] using hR2) FRm.rfl'
  | c :: w, rc, I, hcW, hR, kk => by
    have hR2 := hR
    obtain ⟨hT, ha, han, hC, hb, hW, hWT, hO, hl⟩ := hR
    have hn := hT.2.1
    have hlw : (c :: w).length = w.length + 1 := rfl
    have hc128 := hcW c (List.mem_cons_self ..)
    refine ex_st 2 (pc' := 4) (ls' := [(0, xr 143)]) (st' := [xi (I 143 26)]) rfl ?_
    rw [hW]
    refine ex_if rfl (by constructor <;> omega) (fun (h : (((c :: w).length : Nat) : Int) ≤ 0) => by exfalso; omega) (fun h => ?_)
    refine ex_st 4 (pc' := 15) (ls' := [(0, xr 143)]) (st' := [xi (I 143 26), xr 158]) rfl ?_
    rw [hW]
    refine ex_st 2 (pc' := 17) (ls' := [(0, xr 143)]) (st' := [xi ((((c :: w).length : Nat) : Int) - 1), xr 158]) rfl ?_
    refine ex_iald (j := w.length) rfl (by decide) (rfl : xSH[158]? = some _) (by omega) (by omega) (by decide) ?_
    rw [hWT.1]
    refine ex_st 1 (pc' := 20) (ls' := [(0, xr 143)]) (st' := [xi 33, xi (↑c)]) rfl ?_
    by_cases hc : c = 33
    · subst hc
      refine ex_ic rfl (by decide) (by decide) (fun (h1 : ¬ (((33 : Nat)) : Int) = 33) => absurd rfl h1) (fun _ => ?_)
      refine ex_st 2 (pc' := 26) (ls' := [(0, xr 143)]) (st' := [xi (-33), xr 143]) rfl ?_
      refine ex_callQ (ct_m_emits (L := L) hC (by omega) hb) (by decide) rfl ⟨rfl, rfl, rfl⟩ ⟨Nat.le_of_ble_eq_true rfl, rfl, rfl⟩ (Nat.le_of_ble_eq_true rfl) rfl (fun ra m2 hQ => ?_)
      obtain ⟨rfl, I1, rfl, C1, f1⟩ := hQ
      have hO1 : opn (33 :: w) = opn w + 1 := by show (if (33 : Nat) = 33 ∨ (33 : Nat) = 40 then 1 else 0) + opn w = _; rw [if_pos (Or.inl rfl)]; omega
      have hOl := opn_le w
      refine ex_st 3 (pc' := 34) (ls' := [(0, xr 143)]) (st' := [xi (I1 143 26), xr 143]) rfl ?_
      rw [f1 _ _ (by omega), hW]
      refine ex_st 2 (pc' := 36) (ls' := [(0, xr 143)]) (st' := [xi ((((33 :: w).length : Nat) : Int) - 1), xr 143]) rfl ?_
      refine ex_pfi rfl (by decide) (rfl : xSH[143]? = some _) (by decide) rfl (by decide) (fun h => by cases h) ?_
      refine ex_st 3 (pc' := 44) (ls' := [(0, xr 143)]) (st' := [xi ((x_up I1 143 26 ((((33 :: w).length : Nat) : Int) - 1)) 143 27), xr 143]) rfl ?_
      rw [x_up_far (k := 143) (j := 27) (by decide), f1 _ _ (by omega), hO]
      refine ex_st 2 (pc' := 46) (ls' := [(0, xr 143)]) (st' := [xi (((opn (33 :: w) : Nat) : Int) - 1), xr 143]) rfl ?_
      refine ex_pfi rfl (by decide) (rfl : xSH[143]? = some _) (by decide) rfl (by decide) (fun h => by cases h) ?_
      generalize hM : x_up (x_up I1 143 26 ((((33 :: w).length : Nat) : Int) - 1)) 143 27 (((opn (33 :: w) : Nat) : Int) - 1) = I2
      have g2 : ∀ k j, ¬ (k = 143 ∧ (j = 26 ∨ j = 27)) → I2 k j = I1 k j := fun k j hk => by rw [← hM, x_up_far (by omega), x_up_far (by omega)]
      have f12 : FRm b I I2 := fun k j hk => by rw [g2 k j (by omega), f1 k j (by omega)]
      refine ex_st 1 (pc' := 0) (ls' := [(0, xr 143)]) (st' := []) rfl ?_
      have hlr : (rc ++ [-33]).length = rc.length + 1 := by simp
      refine lp_mwh w (rc ++ [-33]) I2 (fun x hx => hcW x (List.mem_cons_of_mem _ hx)) ⟨hT.fr (f12 _ _ (by omega)) (fun j => f12 _ _ (by omega)), by rw [g2 _ _ (by omega), f1 _ _ (by omega)]; exact ha, han, C1.fr (g2 _ _ (by omega)) (fun j => g2 _ _ (by omega)), hb, by rw [← hM, x_up_far (by decide), x_up_at]; omega, hWT.2.fr (fun j hj => by rw [g2 _ _ (by omega), f1 _ _ (by omega)]), by rw [← hM, x_up_at]; omega, by omega⟩ (fun I' q1 q2 => ?_)
      refine kk I' ?_ (f12.trans q2)
      simp only [p_wc, p_wr, if_true]
      rw [List.append_assoc] at q1
      exact q1
    · refine ex_ic rfl (by constructor <;> omega) (by decide) (fun (h1 : ¬ (↑c : Int) = 33) => ?_) (fun (h1 : ¬ ¬ (↑c : Int) = 33) => by exfalso; omega)
      refine ex_retv rfl rfl ?_
      refine kk I ?_ FRm.rfl'
      simp only [p_wc, p_wr, if_neg hc]
      rw [List.append_nil]
      exact hR2
theorem ct_m_whole {sc : List Int} {L : Nat → Nat → Int64} {n : Nat} {tx : Nat → Nat} {b a : Nat} {W : List Nat} {rc : List Int} {I : Nat → Nat → Int} (hcW : ∀ c, c ∈ W → c < 128) (hR : RSt I n tx b a rc W) : x_CQ sc 2 xN_m_whole [xr 143] (xSH, I, L) (fun r m' => r = none ∧ ∃ I', m' = (xSH, I', L) ∧ RSt I' n tx b a (rc ++ p_wc W) (p_wr W) ∧ FRm b I I') := by
  refine x_CQ.of (M := xM_m_whole) rfl (Nat.le_of_ble_eq_true rfl) ?_
  exact lp_mwh W rc I hcW hR (fun I' q1 q2 => ⟨rfl, I', rfl, q1, q2⟩)
/-- settle(s): what goes -/
def p_go (s c : Nat) : Bool := decide (c = 38 ∨ (c = 124 ∧ s ≠ 38))
def p_sr (s : Nat) : List Nat → List Nat
  | [] => []
  | c :: w => if p_go s c = true then p_sr s w else c :: w
def p_sc (s : Nat) : List Nat → List Int
  | [] => []
  | c :: w => if p_go s c = true then -(c : Int) :: p_sc s w else []
theorem lp_mst {sc : List Int} {L : Nat → Nat → Int64} {n : Nat} {tx : Nat → Nat} {b a s : Nat} (hs : s < 128) {Q : Option xPV → xMem → Prop} : ∀ (W : List Nat) (rc : List Int) (I : Nat → Nat → Int), (∀ c, c ∈ W → c < 128) → RSt I n tx b a rc W → (∀ I' : Nat → Nat → Int, RSt I' n tx b a (rc ++ p_sc s W) (p_sr s W) → FRm b I I' → Q none (xSH, I', L)) → x_Ex sc 1 xM_m_settle 0 [(0, xr 143), (1, xi (↑s))] [] (xSH, I, L) Q
  | [], rc, I, _, hR, kk => by
    have hR2 := hR
    obtain ⟨hT, ha, han, hC, hb, hW, hWT, hO, hl⟩ := hR
    refine ex_st 2 (pc' := 4) (ls' := [(0, xr 143), (1, xi (↑s))]) (st' := [xi (I 143 26)]) rfl ?_
    rw [hW]
    refine ex_if rfl (by decide) (fun _ => ?_) (fun (h : ¬ ((([] : List Nat).length : Nat) : Int) ≤ 0) => absurd (by decide) h)
    refine ex_retv rfl rfl ?_
    exact kk I (by simpa [p_sc, p_sr] using hR2) FRm.rfl'
  | c :: w, rc, I, hcW, hR, kk => by
    have hR2 := hR
    obtain ⟨hT, ha, han, hC, hb, hW, hWT, hO, hl⟩ := hR
    have hn := hT.2.1
    have hlw : (c :: w).length = w.length + 1 := rfl
    have hc128 := hcW c (List.mem_cons_self ..)
    have stay : p_go s c = false → Q none (xSH, I, L) := fun hg => by
      refine kk I ?_ FRm.rfl'
      simp only [p_sc, p_sr]
      rw [if_neg (by rw [hg]; decide), if_neg (by rw [hg]; decide), List.append_nil]
      exact hR2
    have at45 : p_go s c = true → x_Ex sc 1 xM_m_settle 45 [(0, xr 143), (1, xi (↑s))] [] (xSH, I, L) Q := by
      intro hg
      have hc3 : c ≠ 33 ∧ c ≠ 40 := by unfold p_go at hg; simp at hg; omega
      have hO1 : opn (c :: w) = opn w := by simp only [opn]; rw [if_neg (by omega)]; omega
      refine ex_st 3 (pc' := 50) (ls' := [(0, xr 143), (1, xi (↑s))]) (st' := [xi (I 143 26), xr 143]) rfl ?_
      rw [hW]
      refine ex_st 2 (pc' := 52) (ls' := [(0, xr 143), (1, xi (↑s))]) (st' := [xi ((((c :: w).length : Nat) : Int) - 1), xr 143]) rfl ?_
      refine ex_pfi rfl (by decide) (rfl : xSH[143]? = some _) (by decide) rfl (by decide) (fun h => by cases h) ?_
      generalize hM : x_up I 143 26 ((((c :: w).length : Nat) : Int) - 1) = I1
      have g1 : ∀ k j, ¬ (k = 143 ∧ j = 26) → I1 k j = I k j := fun k j hk => by rw [← hM, x_up_far hk]
      have v1 : I1 143 26 = ((w.length : Nat) : Int) := by rw [← hM, x_up_at]; omega
      refine ex_st 5 (pc' := 64) (ls' := [(0, xr 143), (1, xi (↑s))]) (st' := [xi (I1 143 26), xr 158, xr 143]) rfl ?_
      rw [v1]
      refine ex_iald (j := w.length) rfl (by decide) (rfl : xSH[158]? = some _) rfl (by omega) (by decide) ?_
      rw [g1 _ _ (by omega), hWT.1]
      refine ex_st 1 (pc' := 66) (ls' := [(0, xr 143), (1, xi (↑s))]) (st' := [xi (-(↑c)), xr 143]) rfl ?_
      refine ex_callQ (ct_m_emits (L := L) (hC.fr (g1 _ _ (by omega)) (fun j => g1 _ _ (by omega))) (by omega) hb) (by decide) rfl ⟨rfl, rfl, rfl⟩ ⟨Nat.le_of_ble_eq_true rfl, rfl, rfl⟩ (Nat.le_of_ble_eq_true rfl) rfl (fun ra m2 hQ => ?_)
      obtain ⟨rfl, I2, rfl, C2, f2⟩ := hQ
      have f12 : FRm b I I2 := fun k j hk => by rw [f2 k j (by omega), g1 k j (by omega)]
      refine ex_st 1 (pc' := 0) (ls' := [(0, xr 143), (1, xi (↑s))]) (st' := []) rfl ?_
      have hlr : (rc ++ [-(c : Int)]).length = rc.length + 1 := by simp
      refine lp_mst hs w (rc ++ [-(c : Int)]) I2 (fun x hx => hcW x (List.mem_cons_of_mem _ hx)) ⟨hT.fr (f12 _ _ (by omega)) (fun j => f12 _ _ (by omega)), by rw [f2 _ _ (by omega), g1 _ _ (by omega)]; exact ha, han, C2, hb, by rw [f2 _ _ (by omega)]; exact v1, hWT.2.fr (fun j hj => by rw [f2 _ _ (by omega), g1 _ _ (by omega)]), by rw [f2 _ _ (by omega), g1 _ _ (by omega), hO, hO1], by omega⟩ (fun I' q1 q2 => ?_)
      refine kk I' ?_ (f12.trans q2)
      simp only [p_sc, p_sr]
      rw [if_pos hg, if_pos hg]
      rw [List.append_assoc] at q1
      exact q1
    refine ex_st 2 (pc' := 4) (ls' := [(0, xr 143), (1, xi (↑s))]) (st' := [xi (I 143 26)]) rfl ?_
    rw [hW]
    refine ex_if rfl (by constructor <;> omega) (fun (h : (((c :: w).length : Nat) : Int) ≤ 0) => by exfalso; omega) (fun h => ?_)
    refine ex_st 4 (pc' := 15) (ls' := [(0, xr 143), (1, xi (↑s))]) (st' := [xi (I 143 26), xr 158]) rfl ?_
    rw [hW]
    refine ex_st 2 (pc' := 17) (ls' := [(0, xr 143), (1, xi (↑s))]) (st' := [xi ((((c :: w).length : Nat) : Int) - 1), xr 158]) rfl ?_
    refine ex_iald (j := w.length) rfl (by decide) (rfl : xSH[158]? = some _) (by omega) (by omega) (by decide) ?_
    rw [hWT.1]
    refine ex_st 1 (pc' := 20) (ls' := [(0, xr 143), (1, xi (↑s))]) (st' := [xi 38, xi (↑c)]) rfl ?_
    refine ex_ic rfl (by constructor <;> omega) (by decide) (fun (h1 : (↑c : Int) = 38) => ?_) (fun (h1 : ¬ (↑c : Int) = 38) => ?_)
    · exact at45 (by unfold p_go; exact decide_eq_true (Or.inl (by omega)))
    · refine ex_st 4 (pc' := 31) (ls' := [(0, xr 143), (1, xi (↑s))]) (st' := [xi (I 143 26), xr 158]) rfl ?_
      rw [hW]
      refine ex_st 2 (pc' := 33) (ls' := [(0, xr 143), (1, xi (↑s))]) (st' := [xi ((((c :: w).length : Nat) : Int) - 1), xr 158]) rfl ?_
      refine ex_iald (j := w.length) rfl (by decide) (rfl : xSH[158]? = some _) (by omega) (by omega) (by decide) ?_
      rw [hWT.1]
      refine ex_st 1 (pc' := 36) (ls' := [(0, xr 143), (1, xi (↑s))]) (st' := [xi 124, xi (↑c)]) rfl ?_
      refine ex_ic rfl (by constructor <;> omega) (by decide) (fun (h2 : ¬ (↑c : Int) = 124) => ?_) (fun (h2 : ¬ ¬ (↑c : Int) = 124) => ?_)
      · refine ex_retv rfl rfl ?_
        exact stay (by unfold p_go; exact decide_eq_false (by omega))
      · refine ex_st 2 (pc' := 42) (ls' := [(0, xr 143), (1, xi (↑s))]) (st' := [xi 38, xi (↑s)]) rfl ?_
        refine ex_ic rfl (by constructor <;> omega) (by decide) (fun (h3 : (↑s : Int) = 38) => ?_) (fun (h3 : ¬ (↑s : Int) = 38) => ?_)
        · refine ex_retv rfl rfl ?_
          exact stay (by unfold p_go; exact decide_eq_false (by omega))
        · exact at45 (by unfold p_go; exact decide_eq_true (Or.inr ⟨by omega, by omega⟩))
theorem ct_m_settle {sc : List Int} {L : Nat → Nat → Int64} {n : Nat} {tx : Nat → Nat} {b a s : Nat} (hs : s < 128) {W : List Nat} {rc : List Int} {I : Nat → Nat → Int} (hcW : ∀ c, c ∈ W → c < 128) (hR : RSt I n tx b a rc W) : x_CQ sc 2 xN_m_settle [xr 143, xi (↑s)] (xSH, I, L) (fun r m' => r = none ∧ ∃ I', m' = (xSH, I', L) ∧ RSt I' n tx b a (rc ++ p_sc s W) (p_sr s W) ∧ FRm b I I') := by
  refine x_CQ.of (M := xM_m_settle) rfl (Nat.le_of_ble_eq_true rfl) ?_
  exact lp_mst hs W rc I hcW hR (fun I' q1 q2 => ⟨rfl, I', rfl, q1, q2⟩)

