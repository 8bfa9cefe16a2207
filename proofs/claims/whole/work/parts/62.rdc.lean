/-! the class's reader: clauses, the text -/
def p_ck (n : Nat) (tx : Nat → Nat) (a : Nat) : Int := if pg n tx a = 113 then 2 else if pg n tx (a + 1) = 111 then 1 else 0
def wd (k : Int) : List Nat := if k = 2 then [113, 117, 111, 116, 97, 32] else if k = 1 then [108, 111, 97, 116, 104, 101, 32] else [108, 105, 107, 101, 32]
/-- behind a clause's word -/
def p_cb (n : Nat) (tx : Nat → Nat) (a : Nat) : Nat := (p_w n tx (wd (p_ck n tx a)) a).1
def p_cn (n : Nat) (tx : Nat → Nat) (a : Nat) : Int := p_nm n tx (p_cb n tx a)
def p_C (n : Nat) (tx : Nat → Nat) (a : Nat) : PR := if (p_w n tx (wd (p_ck n tx a)) a).2 = true then (if p_cn n tx a < 0 then (p_cb n tx a, [], false) else if p_ck n tx a = 2 then (p_na n tx (p_cb n tx a), [], true) else if pg n tx (p_na n tx (p_cb n tx a)) = 32 then p_E n tx (p_S n tx 4) 101 false (p_na n tx (p_cb n tx a) + 1) [] else (p_na n tx (p_cb n tx a), [], false)) else (p_cb n tx a, [], false)
theorem p_w_bd {n : Nat} {tx : Nat → Nat} : ∀ (w : List Nat) (a : Nat), a ≤ n → (∀ c, c ∈ w → c ≠ 0) → a ≤ (p_w n tx w a).1 ∧ (p_w n tx w a).1 ≤ n
  | [], a, h, _ => ⟨Nat.le_refl _, h⟩
  | c :: w, a, h, hw => by
    simp only [p_w]
    split
    · next h1 =>
      have h0 := hw c (List.mem_cons_self ..)
      have k1 := pg_lt (n := n) (tx := tx) (a := a) (by omega)
      have ih := p_w_bd (n := n) (tx := tx) w (a + 1) k1 (fun c hc => hw c (List.mem_cons_of_mem _ hc))
      omega
    · exact ⟨Nat.le_refl _, h⟩
theorem wd_nz (k : Int) : ∀ c, c ∈ wd k → c ≠ 0 := by
  unfold wd
  split
  · decide
  · split <;> decide
theorem p_C_bd {n : Nat} {tx : Nat → Nat} {a : Nat} (h : a ≤ n) : PB n a (p_C n tx a) := by
  have hw := p_w_bd (tx := tx) (wd (p_ck n tx a)) a h (wd_nz _)
  have hb : a ≤ p_cb n tx a ∧ p_cb n tx a ≤ n := hw
  have hn := p_na_bd (tx := tx) hb.2
  unfold p_C
  split
  · split
    · exact ⟨hb.1, hb.2, fun q => by cases q⟩
    · next h2 =>
      have h3 := hn.2.2 (by unfold p_cn at h2; omega)
      split
      · exact ⟨by show a ≤ p_na n tx (p_cb n tx a); omega, hn.2.1, fun _ => ⟨by show a < p_na n tx (p_cb n tx a); omega, by show 0 + a ≤ p_na n tx (p_cb n tx a); omega⟩⟩
      · split
        · next h4 =>
          have k1 := pg_lt (n := n) (tx := tx) (a := p_na n tx (p_cb n tx a)) (by omega)
          have e := p_E_bd (tx := tx) (p_S_bd (n := n) (tx := tx) 4) 101 false (p_na n tx (p_cb n tx a) + 1) [] k1
          refine ⟨by omega, e.2.1, fun q => ?_⟩
          have e2 := e.2.2 q
          rw [if_neg (by decide)] at e2
          simp only [List.length_nil] at e2
          omega
        · exact ⟨by show a ≤ p_na n tx (p_cb n tx a); omega, hn.2.1, fun q => by cases q⟩
  · exact ⟨hb.1, hb.2, fun q => by cases q⟩
def FRt (T : Nat) (I I' : Nat → Nat → Int) : Prop := ∀ k j, ¬ ((k = 85 ∧ j = 2) ∨ (T ≤ k ∧ k ≤ T + 3)) → I' k j = I k j
theorem FRr.t {T : Nat} {I I' : Nat → Nat → Int} (h : FRr T I I') : FRt T I I' := fun k j hk => h k j (by omega)
/-- what a clause leaves -/
def RCo (I : Nat → Nat → Int) (L : Nat → Nat → Int64) (T : Nat) (cs : List Int) (n : Nat) (tx : Nat → Nat) (a m : Nat) (r : Option xPV) (m' : xMem) : Prop := r = some (xi (x_b ((p_C n tx a).2.2 = true))) ∧ ∃ I', m' = (xSH, I', L) ∧ I' 85 2 = (((p_C n tx a).1 : Nat) : Int) ∧ FRt T I I' ∧ ((p_C n tx a).2.2 = true → CD I' T (cs ++ (p_C n tx a).2.1) ∧ (p_ck n tx a = 2 → I' T 0 = p_cn n tx a ∧ I' T 1 = I T 1 ∧ ∀ j, I' (T + 1) j = I (T + 1) j ∧ I' (T + 2) j = I (T + 2) j) ∧ (p_ck n tx a ≠ 2 → I' T 0 = I T 0 ∧ I' T 1 = ((m + 1 : Nat) : Int) ∧ I' (T + 1) m = (if p_ck n tx a = 0 then p_cn n tx a else - p_cn n tx a) ∧ I' (T + 2) m = (((cs ++ (p_C n tx a).2.1).length : Nat) : Int) ∧ ∀ j, j ≠ m → I' (T + 1) j = I (T + 1) j ∧ I' (T + 2) j = I (T + 2) j))
theorem ct_R_readQuota {sc : List Int} {I : Nat → Nat → Int} {L : Nat → Nat → Int64} {n : Nat} {tx : Nat → Nat} (hT : TXc I n tx) {a : Nat} (ha : I 85 2 = (a : Int)) (han : a ≤ n) {T : Nat} (hTS : TS T) (hT4 : 104 ≤ T) : x_CQ sc 10 xN_R_readQuota [xr 85, xr T] (xSH, I, L) (fun r m' => r = some (xi (x_b (0 ≤ p_nm n tx a))) ∧ ∃ I', m' = (xSH, I', L) ∧ I' 85 2 = ((p_na n tx a : Nat) : Int) ∧ I' T 0 = p_nm n tx a ∧ ∀ k j, ¬ (k = 85 ∧ j = 2) → ¬ (k = T ∧ j = 0) → I' k j = I k j) := by
  have hlt := hTS.2.2.2.2
  have hb := p_nm_bd n tx a
  refine x_CQ.of (M := xM_R_readQuota) rfl (Nat.le_of_ble_eq_true rfl) ?_
  refine ex_st 1 (pc' := 1) (ls' := [(0, xr 85), (1, xr T)]) (st' := [xr 85]) rfl ?_
  refine ex_callQ (ct_R_readNumber (L := L) hT ha han) (by decide) rfl ⟨rfl, rfl, rfl⟩ ⟨Nat.le_of_ble_eq_true rfl, rfl, rfl⟩ (Nat.le_of_ble_eq_true rfl) rfl (fun ra m2 hQ => ?_)
  obtain ⟨rfl, I1, rfl, a1, f1⟩ := hQ
  refine ex_st 3 (pc' := 7) (ls' := [(2, xi (p_nm n tx a)), (0, xr 85), (1, xr T)]) (st' := [xi (p_nm n tx a), xr T]) rfl ?_
  refine ex_pfi rfl (by omega) hTS.1 (by decide) rfl (by decide) (fun h => by cases h) ?_
  generalize hM : x_up I1 T 0 (p_nm n tx a) = I2
  have a2 : I2 85 2 = ((p_na n tx a : Nat) : Int) := by rw [← hM, x_up_far (by omega)]; exact a1
  have v2 : I2 T 0 = p_nm n tx a := by rw [← hM, x_up_at]
  have f2 : ∀ k j, ¬ (k = 85 ∧ j = 2) → ¬ (k = T ∧ j = 0) → I2 k j = I k j := fun k j h1 h2 => by rw [← hM, x_up_far h2]; exact f1 k j h1
  refine ex_st 1 (pc' := 11) (ls' := [(2, xi (p_nm n tx a)), (0, xr 85), (1, xr T)]) (st' := [xi (p_nm n tx a)]) rfl ?_
  refine ex_if rfl (by constructor <;> omega) (fun (h0 : p_nm n tx a < 0) => ?_) (fun (h0 : ¬ p_nm n tx a < 0) => ?_)
  · refine ex_st 1 (pc' := 19) (ls' := [(2, xi (p_nm n tx a)), (0, xr 85), (1, xr T)]) (st' := [xi 0]) rfl ?_
    refine ex_retz rfl (Or.inl rfl) rfl ?_
    exact ⟨by unfold x_b; rw [if_neg (by omega)], I2, rfl, a2, v2, f2⟩
  · refine ex_st 2 (pc' := 19) (ls' := [(2, xi (p_nm n tx a)), (0, xr 85), (1, xr T)]) (st' := [xi 1]) rfl ?_
    refine ex_retz rfl (Or.inr rfl) rfl ?_
    exact ⟨by unfold x_b; rw [if_pos (by omega)], I2, rfl, a2, v2, f2⟩
theorem ct_R_readClause {sc : List Int} {I : Nat → Nat → Int} {L : Nat → Nat → Int64} {n : Nat} {tx : Nat → Nat} (hT : TXc I n tx) {a : Nat} (ha : I 85 2 = (a : Int)) (han : a ≤ n) {T : Nat} (hTS : TS T) (hT4 : 104 ≤ T) {cs : List Int} (hC : CD I T cs) (hl : cs.length ≤ a) {m : Nat} (hm : I T 1 = (m : Int)) (hm10 : m < 10) : x_CQ sc 22 xN_R_readClause [xr 85, xr T] (xSH, I, L) (fun r m' => RCo I L T cs n tx a m r m') := by
  have hn := hT.2.1
  have hlt := hTS.2.2.2.2
  have h128 := hT.lt a
  have h129 := hT.lt (a + 1)
  have hw := p_w_bd (tx := tx) (wd (p_ck n tx a)) a han (wd_nz _)
  have hcb : a ≤ p_cb n tx a ∧ p_cb n tx a ≤ n := hw
  have hna := p_na_bd (tx := tx) hcb.2
  have hnb := p_nm_bd n tx (p_cb n tx a)
  have fail : ∀ (b : Nat) (I1 : Nat → Nat → Int), p_C n tx a = (b, [], false) → I1 85 2 = (b : Int) → FRt T I I1 → RCo I L T cs n tx a m (some (xi 0)) (xSH, I1, L) := fun b I1 e g1 g2 => by
    unfold RCo
    rw [e]
    exact ⟨rfl, I1, rfl, g1, g2, fun q => by cases q⟩
  have t77 : ∀ (lo : Int) (I1 : Nat → Nat → Int), (lo = 0 ∨ lo = 1) → p_ck n tx a = lo → (p_w n tx (wd (p_ck n tx a)) a).2 = true → I1 85 2 = ((p_cb n tx a : Nat) : Int) → (∀ k j, ¬ (k = 85 ∧ j = 2) → I1 k j = I k j) → x_Ex sc 21 xM_R_readClause 77 [(2, xi lo), (0, xr 85), (1, xr T)] [] (xSH, I1, L) (fun r m' => RCo I L T cs n tx a m r m') := by
    intro lo I1 hlo hck hok a1 f1
    have T1 : TXc I1 n tx := hT.fr (f1 _ _ (by omega)) (fun j => f1 _ _ (by omega))
    refine ex_st 1 (pc' := 78) (ls' := [(2, xi lo), (0, xr 85), (1, xr T)]) (st' := [xr 85]) rfl ?_
    refine ex_callQ (ct_R_readNumber (L := L) T1 a1 hcb.2) (by decide) rfl ⟨rfl, rfl, rfl⟩ ⟨Nat.le_of_ble_eq_true rfl, rfl, rfl⟩ (Nat.le_of_ble_eq_true rfl) rfl (fun ra m2 hQ => ?_)
    obtain ⟨rfl, I2, rfl, a2, f2⟩ := hQ
    have f12 : ∀ k j, ¬ (k = 85 ∧ j = 2) → I2 k j = I k j := fun k j hk => by rw [f2 k j hk, f1 k j hk]
    have T2 : TXc I2 n tx := hT.fr (f12 _ _ (by omega)) (fun j => f12 _ _ (by omega))
    have ft2 : FRt T I I2 := fun k j hk => f12 k j (by omega)
    refine ex_st 2 (pc' := 83) (ls' := [(3, xi (p_nm n tx (p_cb n tx a))), (2, xi lo), (0, xr 85), (1, xr T)]) (st' := [xi (p_nm n tx (p_cb n tx a))]) rfl ?_
    refine ex_if rfl (by constructor <;> omega) (fun (h2 : p_nm n tx (p_cb n tx a) < 0) => ?_) (fun (h2 : ¬ p_nm n tx (p_cb n tx a) < 0) => ?_)
    · refine ex_st 1 (pc' := 105) (ls' := [(3, xi (p_nm n tx (p_cb n tx a))), (2, xi lo), (0, xr 85), (1, xr T)]) (st' := [xi 0]) rfl ?_
      refine ex_retz rfl (Or.inl rfl) rfl ?_
      exact fail (p_cb n tx a) I2 (by unfold p_C; rw [if_pos hok, if_pos (show p_cn n tx a < 0 from h2)]) (by rw [a2, p_nm_na n tx _ h2]) ft2
    · have hp3 := hna.2.2 (by omega)
      have hck2 : p_ck n tx a ≠ 2 := by omega
      refine ex_st 2 (pc' := 89) (ls' := [(3, xi (p_nm n tx (p_cb n tx a))), (2, xi lo), (0, xr 85), (1, xr T)]) (st' := [xi 32, xr 85]) rfl ?_
      by_cases h4 : pg n tx (p_na n tx (p_cb n tx a)) = 32
      · have hag := pg_lt (n := n) (tx := tx) (a := p_na n tx (p_cb n tx a)) (by omega)
        have e : p_C n tx a = p_E n tx (p_S n tx 4) 101 false (p_na n tx (p_cb n tx a) + 1) [] := by unfold p_C; rw [if_pos hok, if_neg (show ¬ p_cn n tx a < 0 from h2), if_neg hck2, if_pos h4]
        refine ex_callQ (ct_R_skip_y (L := L) T2 a2 hna.2.1 (c := 32) (by decide) h4) (by decide) rfl ⟨rfl, rfl, rfl⟩ ⟨Nat.le_of_ble_eq_true rfl, rfl, rfl⟩ (Nat.le_of_ble_eq_true rfl) rfl (fun ra m2 hQ => ?_)
        obtain ⟨rfl, I3, rfl, a3, f3⟩ := hQ
        have f13 : ∀ k j, ¬ (k = 85 ∧ j = 2) → I3 k j = I k j := fun k j hk => by rw [f3 k j hk, f12 k j hk]
        have T3 : TXc I3 n tx := hT.fr (f13 _ _ (by omega)) (fun j => f13 _ _ (by omega))
        have C3 : CD I3 T cs := hC.fr (f13 _ _ (by omega)) (fun j => f13 _ _ (by omega))
        refine ex_st 1 (pc' := 95) (ls' := [(3, xi (p_nm n tx (p_cb n tx a))), (2, xi lo), (0, xr 85), (1, xr T)]) (st' := []) rfl ?_
        refine ex_st 3 (pc' := 98) (ls' := [(3, xi (p_nm n tx (p_cb n tx a))), (2, xi lo), (0, xr 85), (1, xr T)]) (st' := [xi 0, xr T, xr 85]) rfl ?_
        refine ex_callQ (ct_R_readEither (RSC.four hTS hT4) (p_S_bd 4) hTS hT4 (by decide) T3 a3 hag C3 (by omega)) (by decide) rfl ⟨rfl, rfl, rfl⟩ ⟨Nat.le_of_ble_eq_true rfl, rfl, rfl⟩ (Nat.le_of_ble_eq_true rfl) rfl (fun ra m2 hQ => ?_)
        obtain ⟨rfl, I4, rfl, a4, C4, f4⟩ := hQ
        have f14 : FRr T I I4 := fun k j hk => by rw [f4 k j hk, f13 k j (by omega)]
        rw [← e] at a4 C4 ⊢
        refine ex_bne rfl (fun h5 => ?_) (fun h5 => ?_)
        · have at117 : ∀ we : Int, we = (if p_ck n tx a = 0 then p_cn n tx a else - p_cn n tx a) → x_Ex sc 21 xM_R_readClause 117 [(3, xi (p_nm n tx (p_cb n tx a))), (2, xi lo), (0, xr 85), (1, xr T)] [xi we, xr T] (xSH, I4, L) (fun r m' => RCo I L T cs n tx a m r m') := by
            intro we hwe
            refine ex_callQ (ct_Tr_endClause (L := L) hTS (C4 h5).1 (show I4 T 1 = (m : Int) by rw [f14 _ _ (by omega)]; exact hm) hm10 (we := we)) (by decide) rfl ⟨rfl, rfl, rfl⟩ ⟨Nat.le_of_ble_eq_true rfl, rfl, rfl⟩ (Nat.le_of_ble_eq_true rfl) (x_recv_v (by omega) hTS.1 (by decide)) (fun ra m2 hQ => ?_)
            obtain ⟨rfl, I5, rfl, w1, w2, w3, f5⟩ := hQ
            refine ex_st 1 (pc' := 121) (ls' := [(3, xi (p_nm n tx (p_cb n tx a))), (2, xi lo), (0, xr 85), (1, xr T)]) (st' := [xi 1]) rfl ?_
            refine ex_retz rfl (Or.inr rfl) rfl ?_
            refine ⟨by unfold x_b; rw [if_pos h5], I5, rfl, by rw [f5 _ _ (by omega) (by omega) (by omega)]; exact a4, fun k j hk => by rw [f5 k j (by omega) (by omega) (by omega)]; exact f14.t k j hk, fun _ => ⟨(C4 h5).fr (f5 _ _ (by omega) (by omega) (by omega)) (fun j => f5 _ _ (by omega) (by omega) (by omega)), fun q => absurd q hck2, fun _ => ⟨?_, ?_, ?_, w2, fun j hj => ⟨?_, ?_⟩⟩⟩⟩
            · rw [f5 _ _ (by omega) (by omega) (by omega)]; exact f14 _ _ (by omega)
            · rw [w3]; rfl
            · rw [w1, hwe]
            · rw [f5 _ _ (by omega) (by omega) (by omega)]; exact f14 _ _ (by omega)
            · rw [f5 _ _ (by omega) (by omega) (by omega)]; exact f14 _ _ (by omega)
          refine ex_st 2 (pc' := 108) (ls' := [(3, xi (p_nm n tx (p_cb n tx a))), (2, xi lo), (0, xr 85), (1, xr T)]) (st' := [xi lo, xr T]) rfl ?_
          refine ex_if rfl (by constructor <;> omega) (fun (h6 : lo = 0) => ?_) (fun (h6 : ¬ lo = 0) => ?_)
          · refine ex_st 1 (pc' := 117) (ls' := [(3, xi (p_nm n tx (p_cb n tx a))), (2, xi lo), (0, xr 85), (1, xr T)]) (st' := [xi (p_nm n tx (p_cb n tx a)), xr T]) rfl ?_
            exact at117 _ (by rw [if_pos (by omega)]; rfl)
          · refine ex_st 3 (pc' := 117) (ls' := [(3, xi (p_nm n tx (p_cb n tx a))), (2, xi lo), (0, xr 85), (1, xr T)]) (st' := [xi (-(p_nm n tx (p_cb n tx a))), xr T]) rfl ?_
            exact at117 _ (by rw [if_neg (by omega)]; rfl)
        · refine ex_st 1 (pc' := 105) (ls' := [(3, xi (p_nm n tx (p_cb n tx a))), (2, xi lo), (0, xr 85), (1, xr T)]) (st' := [xi 0]) rfl ?_
          refine ex_retz rfl (Or.inl rfl) rfl ?_
          exact ⟨by unfold x_b; rw [if_neg h5], I4, rfl, a4, f14.t, fun q => absurd q h5⟩
      · have e : p_C n tx a = (p_na n tx (p_cb n tx a), [], false) := by unfold p_C; rw [if_pos hok, if_neg (show ¬ p_cn n tx a < 0 from h2), if_neg hck2, if_neg h4]
        refine ex_call (ct_R_skip_n (L := L) T2 a2 hna.2.1 (c := 32) (by decide) h4) (by decide) rfl ⟨rfl, rfl, rfl⟩ ⟨Nat.le_of_ble_eq_true rfl, rfl, rfl⟩ (Nat.le_of_ble_eq_true rfl) rfl ?_
        refine ex_st 1 (pc' := 104) (ls' := [(3, xi (p_nm n tx (p_cb n tx a))), (2, xi lo), (0, xr 85), (1, xr T)]) (st' := []) rfl ?_
        refine ex_st 1 (pc' := 105) (ls' := [(3, xi (p_nm n tx (p_cb n tx a))), (2, xi lo), (0, xr 85), (1, xr T)]) (st' := [xi 0]) rfl ?_
        refine ex_retz rfl (Or.inl rfl) rfl ?_
        exact fail _ I2 e a2 ft2
  refine x_CQ.of (M := xM_R_readClause) rfl (Nat.le_of_ble_eq_true rfl) ?_
  refine ex_st 3 (pc' := 5) (ls' := [(0, xr 85), (1, xr T)]) (st' := [xi (I 85 2), xr 85]) rfl ?_
  rw [ha]
  refine ex_call (ct_R_signAt (L := L) hT (p := a) (by omega)) (by decide) rfl ⟨rfl, rfl, rfl⟩ ⟨Nat.le_of_ble_eq_true rfl, rfl, rfl⟩ (Nat.le_of_ble_eq_true rfl) rfl ?_
  obtain ⟨s, hs⟩ : ∃ s, s = pg n tx a := ⟨_, rfl⟩
  rw [← hs]
  rw [← hs] at h128
  refine ex_st 1 (pc' := 10) (ls' := [(0, xr 85), (1, xr T)]) (st' := [xi 113, xi (↑s)]) rfl ?_
  refine ex_ic rfl (by constructor <;> omega) (by decide) (fun (h0 : ¬ (↑s : Int) = 113) => ?_) (fun (h0 : ¬ ¬ (↑s : Int) = 113) => ?_)
  · have hpk : p_ck n tx a = (if pg n tx (a + 1) = 111 then 1 else 0) := by unfold p_ck; rw [if_neg (by omega)]
    refine ex_st 3 (pc' := 41) (ls' := [(0, xr 85), (1, xr T)]) (st' := [xi (I 85 2), xr 85]) rfl ?_
    rw [ha]
    refine ex_st 2 (pc' := 43) (ls' := [(0, xr 85), (1, xr T)]) (st' := [xi (↑a + 1), xr 85]) rfl ?_
    rw [show ((a : Nat) : Int) + 1 = ((a + 1 : Nat) : Int) from rfl]
    refine ex_call (ct_R_signAt (L := L) hT (p := a + 1) (by omega)) (by decide) rfl ⟨rfl, rfl, rfl⟩ ⟨Nat.le_of_ble_eq_true rfl, rfl, rfl⟩ (Nat.le_of_ble_eq_true rfl) rfl ?_
    refine ex_st 1 (pc' := 48) (ls' := [(0, xr 85), (1, xr T)]) (st' := [xi 111, xi (↑(pg n tx (a + 1)))]) rfl ?_
    refine ex_ic rfl (by constructor <;> omega) (by decide) (fun (h1 : ¬ (↑(pg n tx (a + 1)) : Int) = 111) => ?_) (fun (h1 : ¬ ¬ (↑(pg n tx (a + 1)) : Int) = 111) => ?_)
    · have hk : p_ck n tx a = 0 := by rw [hpk, if_neg (by omega)]
      have hwd : wd (p_ck n tx a) = [108, 105, 107, 101, 32] := by rw [hk]; rfl
      have hct := ct_R_skipWord1010 (sc := sc) (L := L) hT ha han
      rw [← hwd] at hct
      refine ex_st 4 (pc' := 59) (ls' := [(2, xi 0), (0, xr 85), (1, xr T)]) (st' := [xi 0, xr 85]) rfl ?_
      refine ex_st 1 (pc' := 67) (ls' := [(2, xi 0), (0, xr 85), (1, xr T)]) (st' := [xr 85]) rfl ?_
      refine ex_st 1 (pc' := 69) (ls' := [(2, xi 0), (0, xr 85), (1, xr T)]) (st' := [xr 1010, xr 85]) rfl ?_
      refine ex_callQ hct (by decide) rfl ⟨rfl, rfl, rfl⟩ ⟨Nat.le_of_ble_eq_true rfl, rfl, rfl⟩ (Nat.le_of_ble_eq_true rfl) rfl (fun ra m2 hQ => ?_)
      obtain ⟨rfl, I1, rfl, a1, f1, hle⟩ := hQ
      refine ex_bne rfl (fun h2 => ?_) (fun h2 => ?_)
      · exact t77 0 I1 (by decide) hk h2 a1 f1
      · refine ex_st 1 (pc' := 76) (ls' := [(2, xi 0), (0, xr 85), (1, xr T)]) (st' := [xi 0]) rfl ?_
        refine ex_retz rfl (Or.inl rfl) rfl ?_
        exact fail (p_cb n tx a) I1 (by unfold p_C; rw [if_neg h2]) a1 (fun k j hk => f1 k j (by omega))
    · have hk : p_ck n tx a = 1 := by rw [hpk, if_pos (by omega)]
      have hwd : wd (p_ck n tx a) = [108, 111, 97, 116, 104, 101, 32] := by rw [hk]; rfl
      have hct := ct_R_skipWord1011 (sc := sc) (L := L) hT ha han
      rw [← hwd] at hct
      refine ex_st 5 (pc' := 59) (ls' := [(2, xi 1), (0, xr 85), (1, xr T)]) (st' := [xi 1, xr 85]) rfl ?_
      refine ex_st 1 (pc' := 62) (ls' := [(2, xi 1), (0, xr 85), (1, xr T)]) (st' := [xr 85]) rfl ?_
      refine ex_st 2 (pc' := 69) (ls' := [(2, xi 1), (0, xr 85), (1, xr T)]) (st' := [xr 1011, xr 85]) rfl ?_
      refine ex_callQ hct (by decide) rfl ⟨rfl, rfl, rfl⟩ ⟨Nat.le_of_ble_eq_true rfl, rfl, rfl⟩ (Nat.le_of_ble_eq_true rfl) rfl (fun ra m2 hQ => ?_)
      obtain ⟨rfl, I1, rfl, a1, f1, hle⟩ := hQ
      refine ex_bne rfl (fun h2 => ?_) (fun h2 => ?_)
      · exact t77 1 I1 (by decide) hk h2 a1 f1
      · refine ex_st 1 (pc' := 76) (ls' := [(2, xi 1), (0, xr 85), (1, xr T)]) (st' := [xi 0]) rfl ?_
        refine ex_retz rfl (Or.inl rfl) rfl ?_
        exact fail (p_cb n tx a) I1 (by unfold p_C; rw [if_neg h2]) a1 (fun k j hk => f1 k j (by omega))
  · have hk : p_ck n tx a = 2 := by unfold p_ck; rw [if_pos (by omega)]
    have hwd : wd (p_ck n tx a) = [113, 117, 111, 116, 97, 32] := by rw [hk]; rfl
    have hct := ct_R_skipWord1012 (sc := sc) (L := L) hT ha han
    rw [← hwd] at hct
    refine ex_st 2 (pc' := 16) (ls' := [(0, xr 85), (1, xr T)]) (st' := [xr 1012, xr 85]) rfl ?_
    refine ex_callQ hct (by decide) rfl ⟨rfl, rfl, rfl⟩ ⟨Nat.le_of_ble_eq_true rfl, rfl, rfl⟩ (Nat.le_of_ble_eq_true rfl) rfl (fun ra m2 hQ => ?_)
    obtain ⟨rfl, I1, rfl, a1, f1, hle⟩ := hQ
    have a1' : I1 85 2 = ((p_cb n tx a : Nat) : Int) := a1
    have T1 : TXc I1 n tx := hT.fr (f1 _ _ (by omega)) (fun j => f1 _ _ (by omega))
    refine ex_beq rfl (fun h2 => ?_) (fun h2 => ?_)
    · refine ex_st 1 (pc' := 35) (ls' := [(0, xr 85), (1, xr T)]) (st' := [xi 0]) rfl ?_
      refine ex_retz rfl (Or.inl rfl) rfl ?_
      exact fail (p_cb n tx a) I1 (by unfold p_C; rw [if_neg h2]) a1' (fun k j hk => f1 k j (by omega))
    · refine ex_st 2 (pc' := 24) (ls' := [(0, xr 85), (1, xr T)]) (st' := [xr T, xr 85]) rfl ?_
      refine ex_callQ (ct_R_readQuota (L := L) T1 a1' hcb.2 hTS hT4) (by decide) rfl ⟨rfl, rfl, rfl⟩ ⟨Nat.le_of_ble_eq_true rfl, rfl, rfl⟩ (Nat.le_of_ble_eq_true rfl) rfl (fun ra m2 hQ => ?_)
      obtain ⟨rfl, I2, rfl, a2, v2, f2⟩ := hQ
      have ft2 : FRt T I I2 := fun k j hk => by rw [f2 k j (by omega) (by omega), f1 k j (by omega)]
      refine ex_beq rfl (fun h3 => ?_) (fun h3 => ?_)
      · have h3' : p_nm n tx (p_cb n tx a) < 0 := by omega
        refine ex_st 1 (pc' := 35) (ls' := [(0, xr 85), (1, xr T)]) (st' := [xi 0]) rfl ?_
        refine ex_retz rfl (Or.inl rfl) rfl ?_
        exact fail (p_cb n tx a) I2 (by unfold p_C; rw [if_pos h2, if_pos (show p_cn n tx a < 0 from h3')]) (by rw [a2, p_nm_na n tx _ h3']) ft2
      · have e : p_C n tx a = (p_na n tx (p_cb n tx a), [], true) := by unfold p_C; rw [if_pos h2, if_neg (show ¬ p_cn n tx a < 0 by unfold p_cn; omega), if_pos hk]
        refine ex_st 2 (pc' := 35) (ls' := [(0, xr 85), (1, xr T)]) (st' := [xi 1]) rfl ?_
        refine ex_retz rfl (Or.inr rfl) rfl ?_
        unfold RCo
        rw [e]
        refine ⟨rfl, I2, rfl, a2, ft2, fun _ => ⟨?_, fun _ => ⟨v2, ?_, fun j => ⟨?_, ?_⟩⟩, fun q => absurd hk q⟩⟩
        · rw [List.append_nil]; exact hC.fr (by rw [f2 _ _ (by omega) (by omega), f1 _ _ (by omega)]) (fun j => by rw [f2 _ _ (by omega) (by omega), f1 _ _ (by omega)])
        · rw [f2 _ _ (by omega) (by omega), f1 _ _ (by omega)]
        · rw [f2 _ _ (by omega) (by omega), f1 _ _ (by omega)]
        · rw [f2 _ _ (by omega) (by omega), f1 _ _ (by omega)]

