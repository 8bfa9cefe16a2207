/-! the reference's reader: the steps of E -/
def FRe (b c : Nat) (I I' : Nat → Nat → Int) : Prop := ∀ k j, ¬ ((k = 143 ∧ (j = 15 ∨ j = 16 ∨ j = 25 ∨ j = 26 ∨ j = 27)) ∨ (k = 157 ∧ b ≤ j ∧ j < b + 100) ∨ k = 158 ∨ (k = 156 ∧ j = c)) → I' k j = I k j
theorem FRm.e {b c : Nat} {I I' : Nat → Nat → Int} (h : FRm b I I') : FRe b c I I' := fun k j hk => h k j (by omega)
theorem FRe.trans {b c : Nat} {I I' I'' : Nat → Nat → Int} (h1 : FRe b c I I') (h2 : FRe b c I' I'') : FRe b c I I'' := fun k j hk => by rw [h2 k j hk, h1 k j hk]
theorem p_sr_mem (s : Nat) : ∀ (W : List Nat) (x : Nat), x ∈ p_sr s W → x ∈ W
  | [], _, h => h
  | c :: w, x, h => by
    simp only [p_sr] at h
    split at h
    · exact List.mem_cons_of_mem _ (p_sr_mem s w x h)
    · exact h
theorem st_E1 {sc : List Int} {L : Nat → Nat → Int64} {n : Nat} {tx : Nat → Nat} {b a : Nat} {rc : List Int} {W : List Nat} {I : Nat → Nat → Int} {c : Nat} {Q : Option xPV → xMem → Prop} (hR : RSt I n tx b a rc W) (hcW : ∀ c, c ∈ W → c < 128)
    (kp : (pg n tx a = 33 ∨ pg n tx a = 40) → opn W ≠ 4 → ∀ I' : Nat → Nat → Int, RSt I' n tx b (a + 1) rc (pg n tx a :: W) → FRm b I I' → x_Ex sc 8 xM_m_takesE 22 [(2, xi 1), (0, xr 143), (1, xi (↑c))] [] (xSH, I', L) Q)
    (kd : (pg n tx a = 33 ∨ pg n tx a = 40) → opn W = 4 → Q (some (xi 0)) (xSH, I, L))
    (kt : ¬ (pg n tx a = 33 ∨ pg n tx a = 40) → (p_test n tx a).2.2 = true → ∀ I' : Nat → Nat → Int, RSt I' n tx b (p_test n tx a).1 (rc ++ (p_test n tx a).2.1.map mcd ++ p_wc W) (p_wr W) → FRm b I I' → x_Ex sc 8 xM_m_takesE 22 [(2, xi 0), (0, xr 143), (1, xi (↑c))] [] (xSH, I', L) Q)
    (kf : ¬ (pg n tx a = 33 ∨ pg n tx a = 40) → (p_test n tx a).2.2 = false → ∀ I' : Nat → Nat → Int, I' 143 15 = (((p_test n tx a).1 : Nat) : Int) → FRm b I I' → Q (some (xi 0)) (xSH, I', L)) :
    x_Ex sc 8 xM_m_takesE 22 [(2, xi 1), (0, xr 143), (1, xi (↑c))] [] (xSH, I, L) Q := by
  have hR2 := hR
  obtain ⟨hT, ha, han, hC, hb, hW, hWT, hO, hl⟩ := hR
  have hn := hT.2.1
  have h128 := hT.lt a
  have p0 := pn_pg n tx a
  have hol := opn_le W
  refine ex_st 1 (pc' := 23) (ls' := [(2, xi 1), (0, xr 143), (1, xi (↑c))]) (st' := [xr 143]) rfl ?_
  refine ex_call (ct_m_next (L := L) hT ha han) (by decide) rfl ⟨rfl, rfl, rfl⟩ ⟨Nat.le_of_ble_eq_true rfl, rfl, rfl⟩ (Nat.le_of_ble_eq_true rfl) rfl ?_
  obtain ⟨x, hx⟩ : ∃ x, x = pn n tx a := ⟨_, rfl⟩
  rw [← hx]
  rw [← hx] at p0
  have at43 : (pg n tx a = 33 ∨ pg n tx a = 40) → x_Ex sc 8 xM_m_takesE 43 [(3, xi x), (2, xi 1), (0, xr 143), (1, xi (↑c))] [] (xSH, I, L) Q := by
    intro h1
    have hxp : x = ((pg n tx a : Nat) : Int) := by omega
    have hag : a < n := by omega
    refine ex_st 3 (pc' := 48) (ls' := [(3, xi x), (2, xi 1), (0, xr 143), (1, xi (↑c))]) (st' := [xi 4, xi (I 143 27)]) rfl ?_
    rw [hO]
    refine ex_ic rfl (by constructor <;> omega) (by decide) (fun (h2 : ¬ (((opn W : Nat) : Int)) = 4) => ?_) (fun (h2 : ¬ ¬ (((opn W : Nat) : Int)) = 4) => ?_)
    · refine ex_st 3 (pc' := 58) (ls' := [(3, xi x), (2, xi 1), (0, xr 143), (1, xi (↑c))]) (st' := [xi (I 143 27), xr 143]) rfl ?_
      rw [hO]
      refine ex_st 2 (pc' := 60) (ls' := [(3, xi x), (2, xi 1), (0, xr 143), (1, xi (↑c))]) (st' := [xi (↑(opn W) + 1), xr 143]) rfl ?_
      refine ex_pfi rfl (by decide) (rfl : xSH[143]? = some _) (by decide) rfl (by decide) (fun h => by cases h) ?_
      refine ex_st 4 (pc' := 71) (ls' := [(3, xi x), (2, xi 1), (0, xr 143), (1, xi (↑c))]) (st' := [xi ((x_up I 143 27 (↑(opn W) + 1)) 143 26), xr 158]) rfl ?_
      rw [x_up_far (k := 143) (j := 26) (by decide), hW]
      refine ex_st 1 (pc' := 72) (ls' := [(3, xi x), (2, xi 1), (0, xr 143), (1, xi (↑c))]) (st' := [xi x, xi (↑W.length), xr 158]) rfl ?_
      refine ex_iast (j := W.length) rfl (by decide) (rfl : xSH[158]? = some _) rfl (by omega) (by decide) ?_
      refine ex_st 3 (pc' := 78) (ls' := [(3, xi x), (2, xi 1), (0, xr 143), (1, xi (↑c))]) (st' := [xi ((x_up (x_up I 143 27 (↑(opn W) + 1)) 158 W.length x) 143 26), xr 143]) rfl ?_
      rw [x_up_far (k := 143) (j := 26) (by omega), x_up_far (k := 143) (j := 26) (by decide), hW]
      refine ex_st 2 (pc' := 80) (ls' := [(3, xi x), (2, xi 1), (0, xr 143), (1, xi (↑c))]) (st' := [xi (↑W.length + 1), xr 143]) rfl ?_
      refine ex_pfi rfl (by decide) (rfl : xSH[143]? = some _) (by decide) rfl (by decide) (fun h => by cases h) ?_
      refine ex_st 3 (pc' := 88) (ls' := [(3, xi x), (2, xi 1), (0, xr 143), (1, xi (↑c))]) (st' := [xi ((x_up (x_up (x_up I 143 27 (↑(opn W) + 1)) 158 W.length x) 143 26 (↑W.length + 1)) 143 15), xr 143]) rfl ?_
      rw [x_up_far (k := 143) (j := 15) (by decide), x_up_far (k := 143) (j := 15) (by omega), x_up_far (k := 143) (j := 15) (by decide), ha]
      refine ex_st 2 (pc' := 90) (ls' := [(3, xi x), (2, xi 1), (0, xr 143), (1, xi (↑c))]) (st' := [xi (↑a + 1), xr 143]) rfl ?_
      refine ex_pfi rfl (by decide) (rfl : xSH[143]? = some _) (by decide) rfl (by decide) (fun h => by cases h) ?_
      generalize hM : x_up (x_up (x_up (x_up I 143 27 (↑(opn W) + 1)) 158 W.length x) 143 26 (↑W.length + 1)) 143 15 (↑a + 1) = I1
      have g1 : ∀ k j, ¬ ((k = 143 ∧ (j = 15 ∨ j = 26 ∨ j = 27)) ∨ (k = 158 ∧ j = W.length)) → I1 k j = I k j := fun k j hk => by rw [← hM, x_up_far (by omega), x_up_far (by omega), x_up_far (by omega), x_up_far (by omega)]
      refine ex_st 1 (pc' := 22) (ls' := [(3, xi x), (2, xi 1), (0, xr 143), (1, xi (↑c))]) (st' := []) rfl ?_
      refine ex_pm _ (fun i => by rcases i with _ | _ | _ | _ | _ | _ | _ | _ | _ | i <;> first | (right; rfl) | (left; rfl)) (kp h1 (by omega) I1 ⟨hT.fr (g1 _ _ (by omega)) (fun j => g1 _ _ (by omega)), by rw [← hM, x_up_at]; rfl, hag, hC.fr (g1 _ _ (by omega)) (fun j => g1 _ _ (by omega)), hb, by rw [← hM, x_up_far (by decide), x_up_at]; rfl, ⟨?_, hWT.fr (fun j hj => g1 _ _ (by omega))⟩, ?_, by simp only [List.length_cons]; omega⟩ (fun k j hk => g1 k j (by omega)))
      · rw [← hM, x_up_far (by omega), x_up_far (by omega), x_up_at]; exact hxp
      · rw [← hM, x_up_far (by decide), x_up_far (by decide), x_up_far (by omega), x_up_at]
        show (↑(opn W) : Int) + 1 = (((if pg n tx a = 33 ∨ pg n tx a = 40 then 1 else 0) + opn W : Nat) : Int)
        rw [if_pos h1]; omega
    · refine ex_st 1 (pc' := 52) (ls' := [(3, xi x), (2, xi 1), (0, xr 143), (1, xi (↑c))]) (st' := [xi 0]) rfl ?_
      refine ex_retz rfl (Or.inl rfl) rfl ?_
      exact kd h1 (by omega)
  refine ex_st 2 (pc' := 28) (ls' := [(3, xi x), (2, xi 1), (0, xr 143), (1, xi (↑c))]) (st' := [xi 1]) rfl ?_
  refine ex_st 1 (pc' := 31) (ls' := [(3, xi x), (2, xi 1), (0, xr 143), (1, xi (↑c))]) (st' := []) rfl ?_
  refine ex_st 2 (pc' := 34) (ls' := [(3, xi x), (2, xi 1), (0, xr 143), (1, xi (↑c))]) (st' := [xi 33, xi x]) rfl ?_
  refine ex_ic rfl (by constructor <;> omega) (by decide) (fun (h1 : x = 33) => ?_) (fun (h1 : ¬ x = 33) => ?_)
  · exact at43 (by omega)
  · refine ex_st 2 (pc' := 40) (ls' := [(3, xi x), (2, xi 1), (0, xr 143), (1, xi (↑c))]) (st' := [xi 40, xi x]) rfl ?_
    refine ex_ic rfl (by constructor <;> omega) (by decide) (fun (h2 : ¬ x = 40) => ?_) (fun (h2 : ¬ ¬ x = 40) => ?_)
    · have h3 : ¬ (pg n tx a = 33 ∨ pg n tx a = 40) := by omega
      refine ex_st 1 (pc' := 97) (ls' := [(3, xi x), (2, xi 1), (0, xr 143), (1, xi (↑c))]) (st' := [xr 143]) rfl ?_
      refine ex_callQ (ct_m_takesTest (L := L) hR2 hcW) (by decide) rfl ⟨rfl, rfl, rfl⟩ ⟨Nat.le_of_ble_eq_true rfl, rfl, rfl⟩ (Nat.le_of_ble_eq_true rfl) rfl (fun ra m2 hQ => ?_)
      obtain ⟨rfl, I1, rfl, f1, a1, g1⟩ := hQ
      refine ex_beq rfl (fun h4 => ?_) (fun h4 => ?_)
      · refine ex_st 1 (pc' := 109) (ls' := [(3, xi x), (2, xi 1), (0, xr 143), (1, xi (↑c))]) (st' := [xi 0]) rfl ?_
        refine ex_retz rfl (Or.inl rfl) rfl ?_
        exact kf h3 (by simpa using h4) I1 a1 f1
      · refine ex_st 3 (pc' := 22) (ls' := [(2, xi 0), (3, xi x), (0, xr 143), (1, xi (↑c))]) (st' := []) rfl ?_
        exact ex_pm _ (fun i => by rcases i with _ | _ | _ | _ | _ | _ | _ | _ | _ | i <;> first | (right; rfl) | (left; rfl)) (kt h3 h4 I1 (g1 h4) f1)
    · exact at43 (by omega)
theorem st_E0 {sc : List Int} {L : Nat → Nat → Int64} {n : Nat} {tx : Nat → Nat} {b a : Nat} {rc : List Int} {W : List Nat} {I : Nat → Nat → Int} {c : Nat} (hc : c < 60) {Q : Option xPV → xMem → Prop} (hR : RSt I n tx b a rc W) (hcW : ∀ c, c ∈ W → c < 128) (hz : ∀ d w, p_sr 124 W = d :: w → d = 40)
    (ko : (pg n tx a = 38 ∨ pg n tx a = 124) → ∀ I' : Nat → Nat → Int, RSt I' n tx b (a + 1) (rc ++ p_sc (pg n tx a) W) (pg n tx a :: p_sr (pg n tx a) W) → FRm b I I' → x_Ex sc 8 xM_m_takesE 22 [(2, xi 1), (0, xr 143), (1, xi (↑c))] [] (xSH, I', L) Q)
    (ke : ¬ (pg n tx a = 38 ∨ pg n tx a = 124) → p_sr 124 W = [] → ∀ I' : Nat → Nat → Int, RSt I' n tx b a (rc ++ p_sc 124 W) [] → I' 156 c = ((b + (rc ++ p_sc 124 W).length : Nat) : Int) → FRe b c I I' → Q (some (xi 1)) (xSH, I', L))
    (kb : ¬ (pg n tx a = 38 ∨ pg n tx a = 124) → p_sr 124 W ≠ [] → pg n tx a ≠ 41 → ∀ I' : Nat → Nat → Int, I' 143 15 = (a : Int) → FRe b c I I' → Q (some (xi 0)) (xSH, I', L))
    (kc : ¬ (pg n tx a = 38 ∨ pg n tx a = 124) → ∀ w, p_sr 124 W = 40 :: w → pg n tx a = 41 → ∀ I' : Nat → Nat → Int, RSt I' n tx b (a + 1) (rc ++ p_sc 124 W ++ p_wc w) (p_wr w) → FRe b c I I' → x_Ex sc 8 xM_m_takesE 22 [(2, xi 0), (0, xr 143), (1, xi (↑c))] [] (xSH, I', L) Q) :
    x_Ex sc 8 xM_m_takesE 22 [(2, xi 0), (0, xr 143), (1, xi (↑c))] [] (xSH, I, L) Q := by
  have hR2 := hR
  obtain ⟨hT, ha, han, hC, hb, hW, hWT, hO, hl⟩ := hR
  have hn := hT.2.1
  have h128 := hT.lt a
  have p0 := pn_pg n tx a
  refine ex_st 1 (pc' := 23) (ls' := [(2, xi 0), (0, xr 143), (1, xi (↑c))]) (st' := [xr 143]) rfl ?_
  refine ex_call (ct_m_next (L := L) hT ha han) (by decide) rfl ⟨rfl, rfl, rfl⟩ ⟨Nat.le_of_ble_eq_true rfl, rfl, rfl⟩ (Nat.le_of_ble_eq_true rfl) rfl ?_
  obtain ⟨x, hx⟩ : ∃ x, x = pn n tx a := ⟨_, rfl⟩
  rw [← hx]
  rw [← hx] at p0
  have at122 : (pg n tx a = 38 ∨ pg n tx a = 124) → x_Ex sc 8 xM_m_takesE 122 [(3, xi x), (2, xi 0), (0, xr 143), (1, xi (↑c))] [] (xSH, I, L) Q := by
    intro h1
    have hag : a < n := by omega
    obtain ⟨s, hs⟩ : ∃ s, s = pg n tx a := ⟨_, rfl⟩
    obtain rfl : x = (s : Int) := by omega
    have ko' := ko h1
    rw [← hs] at ko' h128
    refine ex_st 2 (pc' := 124) (ls' := [(3, xi (↑s)), (2, xi 0), (0, xr 143), (1, xi (↑c))]) (st' := [xi (↑s), xr 143]) rfl ?_
    refine ex_callQ (ct_m_settle (L := L) h128 hcW hR2) (by decide) rfl ⟨rfl, rfl, rfl⟩ ⟨Nat.le_of_ble_eq_true rfl, rfl, rfl⟩ (Nat.le_of_ble_eq_true rfl) rfl (fun ra m2 hQ => ?_)
    obtain ⟨rfl, I1, rfl, R1, f1⟩ := hQ
    obtain ⟨T1, a1, _, C1, _, W1, WT1, O1, l1⟩ := R1
    refine ex_st 4 (pc' := 135) (ls' := [(3, xi (↑s)), (2, xi 0), (0, xr 143), (1, xi (↑c))]) (st' := [xi (I1 143 26), xr 158]) rfl ?_
    rw [W1]
    refine ex_st 1 (pc' := 136) (ls' := [(3, xi (↑s)), (2, xi 0), (0, xr 143), (1, xi (↑c))]) (st' := [xi (↑s), xi (↑(p_sr s W).length), xr 158]) rfl ?_
    refine ex_iast (j := (p_sr s W).length) rfl (by decide) (rfl : xSH[158]? = some _) rfl (by omega) (by decide) ?_
    refine ex_st 3 (pc' := 142) (ls' := [(3, xi (↑s)), (2, xi 0), (0, xr 143), (1, xi (↑c))]) (st' := [xi ((x_up I1 158 (p_sr s W).length (↑s)) 143 26), xr 143]) rfl ?_
    rw [x_up_far (k := 143) (j := 26) (by omega), W1]
    refine ex_st 2 (pc' := 144) (ls' := [(3, xi (↑s)), (2, xi 0), (0, xr 143), (1, xi (↑c))]) (st' := [xi (↑(p_sr s W).length + 1), xr 143]) rfl ?_
    refine ex_pfi rfl (by decide) (rfl : xSH[143]? = some _) (by decide) rfl (by decide) (fun h => by cases h) ?_
    refine ex_st 2 (pc' := 149) (ls' := [(2, xi 1), (3, xi (↑s)), (0, xr 143), (1, xi (↑c))]) (st' := []) rfl ?_
    refine ex_st 3 (pc' := 154) (ls' := [(2, xi 1), (3, xi (↑s)), (0, xr 143), (1, xi (↑c))]) (st' := [xi ((x_up (x_up I1 158 (p_sr s W).length (↑s)) 143 26 (↑(p_sr s W).length + 1)) 143 15), xr 143]) rfl ?_
    rw [x_up_far (k := 143) (j := 15) (by decide), x_up_far (k := 143) (j := 15) (by omega), a1]
    refine ex_st 2 (pc' := 156) (ls' := [(2, xi 1), (3, xi (↑s)), (0, xr 143), (1, xi (↑c))]) (st' := [xi (↑a + 1), xr 143]) rfl ?_
    refine ex_pfi rfl (by decide) (rfl : xSH[143]? = some _) (by decide) rfl (by decide) (fun h => by cases h) ?_
    generalize hM : x_up (x_up (x_up I1 158 (p_sr s W).length (↑s)) 143 26 (↑(p_sr s W).length + 1)) 143 15 (↑a + 1) = I2
    have g2 : ∀ k j, ¬ ((k = 143 ∧ (j = 15 ∨ j = 26)) ∨ (k = 158 ∧ j = (p_sr s W).length)) → I2 k j = I1 k j := fun k j hk => by rw [← hM, x_up_far (by omega), x_up_far (by omega), x_up_far (by omega)]
    refine ex_st 1 (pc' := 22) (ls' := [(2, xi 1), (3, xi (↑s)), (0, xr 143), (1, xi (↑c))]) (st' := []) rfl ?_
    refine ex_pm _ (fun i => by rcases i with _ | _ | _ | _ | _ | _ | _ | _ | _ | i <;> first | (right; rfl) | (left; rfl)) (ko' I2 ⟨T1.fr (g2 _ _ (by omega)) (fun j => g2 _ _ (by omega)), by rw [← hM, x_up_at]; rfl, hag, C1.fr (g2 _ _ (by omega)) (fun j => g2 _ _ (by omega)), hb, by rw [← hM, x_up_far (by decide), x_up_at]; rfl, ⟨by rw [← hM, x_up_far (by omega), x_up_far (by omega), x_up_at], WT1.fr (fun j hj => g2 _ _ (by omega))⟩, ?_, by simp only [List.length_cons]; omega⟩ (f1.trans (fun k j hk => g2 k j (by omega))))
    rw [g2 _ _ (by omega), O1]
    show _ = (((if s = 33 ∨ s = 40 then 1 else 0) + opn (p_sr s W) : Nat) : Int)
    rw [if_neg (by omega)]; omega
  refine ex_st 2 (pc' := 28) (ls' := [(3, xi x), (2, xi 0), (0, xr 143), (1, xi (↑c))]) (st' := [xi 0]) rfl ?_
  refine ex_st 1 (pc' := 110) (ls' := [(3, xi x), (2, xi 0), (0, xr 143), (1, xi (↑c))]) (st' := []) rfl ?_
  refine ex_st 2 (pc' := 113) (ls' := [(3, xi x), (2, xi 0), (0, xr 143), (1, xi (↑c))]) (st' := [xi 38, xi x]) rfl ?_
  refine ex_ic rfl (by constructor <;> omega) (by decide) (fun (h1 : x = 38) => at122 (by omega)) (fun (h1 : ¬ x = 38) => ?_)
  refine ex_st 2 (pc' := 119) (ls' := [(3, xi x), (2, xi 0), (0, xr 143), (1, xi (↑c))]) (st' := [xi 124, xi x]) rfl ?_
  refine ex_ic rfl (by constructor <;> omega) (by decide) (fun (h2 : ¬ x = 124) => ?_) (fun (h2 : ¬ ¬ x = 124) => at122 (by omega))
  have h3 : ¬ (pg n tx a = 38 ∨ pg n tx a = 124) := by omega
  refine ex_st 2 (pc' := 165) (ls' := [(3, xi x), (2, xi 0), (0, xr 143), (1, xi (↑c))]) (st' := [xi 124, xr 143]) rfl ?_
  refine ex_callQ (ct_m_settle (L := L) (s := 124) (by decide) hcW hR2) (by decide) rfl ⟨rfl, rfl, rfl⟩ ⟨Nat.le_of_ble_eq_true rfl, rfl, rfl⟩ (Nat.le_of_ble_eq_true rfl) rfl (fun ra m2 hQ => ?_)
  obtain ⟨rfl, I1, rfl, R1, f1⟩ := hQ
  have R1' := R1
  obtain ⟨T1, a1, _, C1, _, W1, WT1, O1, l1⟩ := R1
  refine ex_st 5 (pc' := 177) (ls' := [(3, xi x), (2, xi 0), (0, xr 143), (1, xi (↑c))]) (st' := [xi (I1 143 25), xi (↑c), xr 156]) rfl ?_
  rw [C1.1]
  refine ex_iast (j := c) rfl (by decide) (rfl : xSH[156]? = some _) rfl (by omega) (by decide) ?_
  generalize hM : x_up I1 156 c (((b + (rc ++ p_sc 124 W).length : Nat)) : Int) = I2
  have g2 : ∀ k j, ¬ (k = 156 ∧ j = c) → I2 k j = I1 k j := fun k j hk => by rw [← hM, x_up_far hk]
  have v2 : I2 156 c = ((b + (rc ++ p_sc 124 W).length : Nat) : Int) := by rw [← hM, x_up_at]
  have f12 : FRe b c I I2 := f1.e.trans (fun k j hk => g2 k j (by omega))
  have R2 : RSt I2 n tx b a (rc ++ p_sc 124 W) (p_sr 124 W) := ⟨T1.fr (g2 _ _ (by omega)) (fun j => g2 _ _ (by omega)), by rw [g2 _ _ (by omega)]; exact a1, han, C1.fr (g2 _ _ (by omega)) (fun j => g2 _ _ (by omega)), hb, by rw [g2 _ _ (by omega)]; exact W1, WT1.fr (fun j hj => g2 _ _ (by omega)), by rw [g2 _ _ (by omega)]; exact O1, l1⟩
  refine ex_st 2 (pc' := 182) (ls' := [(3, xi x), (2, xi 0), (0, xr 143), (1, xi (↑c))]) (st' := [xi (I2 143 26)]) rfl ?_
  rw [R2.2.2.2.2.2.1]
  refine ex_if rfl (by constructor <;> omega) (fun (h4 : ¬ (((p_sr 124 W).length : Nat) : Int) = 0) => ?_) (fun (h4 : ¬ ¬ (((p_sr 124 W).length : Nat) : Int) = 0) => ?_)
  · refine ex_st 2 (pc' := 190) (ls' := [(3, xi x), (2, xi 0), (0, xr 143), (1, xi (↑c))]) (st' := [xi 41, xi x]) rfl ?_
    refine ex_ic rfl (by constructor <;> omega) (by decide) (fun (h5 : x = 41) => ?_) (fun (h5 : ¬ x = 41) => ?_)
    · obtain ⟨d, w, hdw⟩ : ∃ d w, p_sr 124 W = d :: w := by
        cases hp : p_sr 124 W with
        | nil => rw [hp] at h4; exact absurd rfl h4
        | cons d w => exact ⟨d, w, rfl⟩
      obtain rfl := hz d w hdw
      have hcw : ∀ x, x ∈ w → x < 128 := fun y hy => hcW y (p_sr_mem 124 W y (by rw [hdw]; exact List.mem_cons_of_mem _ hy))
      have kc' := kc h3 w hdw (by omega)
      rw [hdw] at R2
      obtain ⟨T2, a2, _, C2, _, W2, WT2, O2, l2⟩ := R2
      have hO1 : opn (40 :: w) = opn w + 1 := by show (if (40 : Nat) = 33 ∨ (40 : Nat) = 40 then 1 else 0) + opn w = _; rw [if_pos (Or.inr rfl)]; omega
      have hlw : (40 :: w).length = w.length + 1 := rfl
      have hag : a < n := by omega
      refine ex_st 3 (pc' := 200) (ls' := [(3, xi x), (2, xi 0), (0, xr 143), (1, xi (↑c))]) (st' := [xi (I2 143 26), xr 143]) rfl ?_
      rw [W2]
      refine ex_st 2 (pc' := 202) (ls' := [(3, xi x), (2, xi 0), (0, xr 143), (1, xi (↑c))]) (st' := [xi ((((40 :: w).length : Nat) : Int) - 1), xr 143]) rfl ?_
      refine ex_pfi rfl (by decide) (rfl : xSH[143]? = some _) (by decide) rfl (by decide) (fun h => by cases h) ?_
      refine ex_st 3 (pc' := 210) (ls' := [(3, xi x), (2, xi 0), (0, xr 143), (1, xi (↑c))]) (st' := [xi ((x_up I2 143 26 ((((40 :: w).length : Nat) : Int) - 1)) 143 27), xr 143]) rfl ?_
      rw [x_up_far (k := 143) (j := 27) (by decide), O2]
      refine ex_st 2 (pc' := 212) (ls' := [(3, xi x), (2, xi 0), (0, xr 143), (1, xi (↑c))]) (st' := [xi (((opn (40 :: w) : Nat) : Int) - 1), xr 143]) rfl ?_
      refine ex_pfi rfl (by decide) (rfl : xSH[143]? = some _) (by decide) rfl (by decide) (fun h => by cases h) ?_
      refine ex_st 3 (pc' := 220) (ls' := [(3, xi x), (2, xi 0), (0, xr 143), (1, xi (↑c))]) (st' := [xi ((x_up (x_up I2 143 26 ((((40 :: w).length : Nat) : Int) - 1)) 143 27 (((opn (40 :: w) : Nat) : Int) - 1)) 143 15), xr 143]) rfl ?_
      rw [x_up_far (k := 143) (j := 15) (by decide), x_up_far (k := 143) (j := 15) (by decide), a2]
      refine ex_st 2 (pc' := 222) (ls' := [(3, xi x), (2, xi 0), (0, xr 143), (1, xi (↑c))]) (st' := [xi (↑a + 1), xr 143]) rfl ?_
      refine ex_pfi rfl (by decide) (rfl : xSH[143]? = some _) (by decide) rfl (by decide) (fun h => by cases h) ?_
      generalize hM3 : x_up (x_up (x_up I2 143 26 ((((40 :: w).length : Nat) : Int) - 1)) 143 27 (((opn (40 :: w) : Nat) : Int) - 1)) 143 15 (↑a + 1) = I3
      have g3 : ∀ k j, ¬ (k = 143 ∧ (j = 15 ∨ j = 26 ∨ j = 27)) → I3 k j = I2 k j := fun k j hk => by rw [← hM3, x_up_far (by omega), x_up_far (by omega), x_up_far (by omega)]
      have R3 : RSt I3 n tx b (a + 1) (rc ++ p_sc 124 W) w := ⟨T2.fr (g3 _ _ (by omega)) (fun j => g3 _ _ (by omega)), by rw [← hM3, x_up_at]; rfl, hag, C2.fr (g3 _ _ (by omega)) (fun j => g3 _ _ (by omega)), hb, by rw [← hM3, x_up_far (by decide), x_up_far (by decide), x_up_at]; omega, WT2.2.fr (fun j hj => g3 _ _ (by omega)), by rw [← hM3, x_up_far (by decide), x_up_at]; omega, by omega⟩
      refine ex_st 1 (pc' := 226) (ls' := [(3, xi x), (2, xi 0), (0, xr 143), (1, xi (↑c))]) (st' := [xr 143]) rfl ?_
      refine ex_callQ (ct_m_whole (L := L) hcw R3) (by decide) rfl ⟨rfl, rfl, rfl⟩ ⟨Nat.le_of_ble_eq_true rfl, rfl, rfl⟩ (Nat.le_of_ble_eq_true rfl) rfl (fun ra m2 hQ => ?_)
      obtain ⟨rfl, I4, rfl, R4, f4⟩ := hQ
      refine ex_st 1 (pc' := 22) (ls' := [(3, xi x), (2, xi 0), (0, xr 143), (1, xi (↑c))]) (st' := []) rfl ?_
      exact ex_pm _ (fun i => by rcases i with _ | _ | _ | _ | _ | _ | _ | _ | _ | i <;> first | (right; rfl) | (left; rfl)) (kc' I4 R4 (f12.trans (fun k j hk => by rw [f4 k j (by omega), g3 k j (by omega)])))
    · refine ex_st 1 (pc' := 194) (ls' := [(3, xi x), (2, xi 0), (0, xr 143), (1, xi (↑c))]) (st' := [xi 0]) rfl ?_
      refine ex_retz rfl (Or.inl rfl) rfl ?_
      exact kb h3 (fun q => by rw [q] at h4; exact h4 rfl) (by omega) I2 R2.2.1 f12
  · have hnil : p_sr 124 W = [] := by
      cases hp : p_sr 124 W with
      | nil => rfl
      | cons d w => rw [hp] at h4; exfalso; apply h4; simp only [List.length_cons]; omega
    rw [hnil] at R2
    refine ex_st 1 (pc' := 186) (ls' := [(3, xi x), (2, xi 0), (0, xr 143), (1, xi (↑c))]) (st' := [xi 1]) rfl ?_
    refine ex_retz rfl (Or.inr rfl) rfl ?_
    exact ke h3 hnil I2 R2 v2 f12

