/-! pairs of calls: can, bases -/
/-- a row of what is seen is so -/
def sp_okr (lk : Nat → Nat → Int) (p : Nat) (sw so st sm : Nat → Nat) (i : Nat) : Bool := decide (sw i = p → (lk p (st i) < lk p (so i) ↔ sm i = 1))
def sp_seen (lk : Nat → Nat → Int) (p : Nat) (sw so st sm : Nat → Nat) : Nat → Nat → Bool
  | 0, _ => true
  | k + 1, i => sp_okr lk p sw so st sm i && sp_seen lk p sw so st sm k (i + 1)
/-- how many of 9 .. 0 there are, and the least -/
def sp_cn (P : Nat → Bool) : Nat → Nat × Int
  | 0 => (0, -5)
  | j + 1 => if P (9 - j) = true then ((sp_cn P j).1 + 1, ((9 - j : Nat) : Int)) else sp_cn P j
theorem sp_cn_bd (P : Nat → Bool) : ∀ j, (sp_cn P j).1 ≤ j ∧ -5 ≤ (sp_cn P j).2 ∧ (sp_cn P j).2 ≤ 9
  | 0 => by simp [sp_cn]
  | j + 1 => by
    have := sp_cn_bd P j
    simp only [sp_cn]
    split
    · exact ⟨by show _ + 1 ≤ _; omega, by show _ ≤ ((9 - j : Nat) : Int); omega, by show ((9 - j : Nat) : Int) ≤ _; omega⟩
    · omega
def sp_Pv (kd : Nat → Nat) (vv : Nat → Int) (ba ro : Nat → Nat → Int) (egg : Int) (se : Nat) (cd we : Nat → Int) (en : Nat → Nat) (cc p : Nat) (sw so st sm : Nat → Nat) (m v : Nat) : Bool := sp_seen (sp_lk kd (fun q => if q = p then (v : Int) else vv q) ba ro egg se cd we en cc) p sw so st sm m 0
def sp_Pb (kd : Nat → Nat) (vv : Nat → Int) (ba ro : Nat → Nat → Int) (egg : Int) (se : Nat) (cd we : Nat → Int) (en : Nat → Nat) (cc p x : Nat) (sw so st sm : Nat → Nat) (m v : Nat) : Bool := sp_seen (sp_lk kd vv (fun q y => if q = p ∧ y = x then (v : Int) else ba q y) ro egg se cd we en cc) p sw so st sm m 0
def SNT (I : Nat → Nat → Int) (m : Nat) (sw so st sm : Nat → Nat) : Prop := I 61 2 = (m : Int) ∧ m ≤ 5 ∧ ∀ i, i < m → I 62 (i * 4 + 0) = (sw i : Int) ∧ sw i ≤ 5 ∧ I 62 (i * 4 + 1) = (so i : Int) ∧ so i < 5 ∧ I 62 (i * 4 + 2) = (st i : Int) ∧ st i < 5 ∧ I 62 (i * 4 + 3) = (sm i : Int) ∧ sm i ≤ 1
def SNM (I : Nat → Nat → Int) (m : Nat) (sw so st sm : Nat → Nat) : Prop := I 143 38 = (m : Int) ∧ m ≤ 5 ∧ ∀ i, i < m → I 165 i = (sw i : Int) ∧ sw i ≤ 5 ∧ I 166 i = (so i : Int) ∧ so i < 5 ∧ I 167 i = (st i : Int) ∧ st i < 5 ∧ I 168 i = (sm i : Int) ∧ sm i ≤ 1
theorem SNT.fr {I I' : Nat → Nat → Int} {m : Nat} {sw so st sm : Nat → Nat} (h : SNT I m sw so st sm) (e : ∀ k j, 61 ≤ k → k ≤ 62 → I' k j = I k j) : SNT I' m sw so st sm := by
  obtain ⟨h1, h2, h3⟩ := h
  refine ⟨by rw [e _ _ (by decide) (by decide)]; exact h1, h2, fun i hi => ?_⟩
  rw [e _ _ (by decide) (by decide), e _ _ (by decide) (by decide), e _ _ (by decide) (by decide), e _ _ (by decide) (by decide)]
  exact h3 i hi
theorem SNM.fr {I I' : Nat → Nat → Int} {m : Nat} {sw so st sm : Nat → Nat} (h : SNM I m sw so st sm) (e0 : I' 143 38 = I 143 38) (e : ∀ k j, 165 ≤ k → k ≤ 168 → I' k j = I k j) : SNM I' m sw so st sm := by
  obtain ⟨h1, h2, h3⟩ := h
  refine ⟨by rw [e0]; exact h1, h2, fun i hi => ?_⟩
  rw [e _ _ (by decide) (by decide), e _ _ (by decide) (by decide), e _ _ (by decide) (by decide), e _ _ (by decide) (by decide)]
  exact h3 i hi
theorem RNe.sn {I : Nat → Nat → Int} (h : RNe I) : ∃ m sw so st sm, SNM I m sw so st sm := by
  obtain ⟨h1, h2, h3, h4, h5⟩ := h
  obtain ⟨m, hm⟩ := Int.eq_ofNat_of_zero_le h2
  refine ⟨m, fun i => (I 165 i).toNat, fun i => (I 166 i).toNat, fun i => (I 167 i).toNat, fun i => (I 168 i).toNat, hm, by omega, fun i hi => ?_⟩
  obtain ⟨g1, g2, g3, g4, g5, g6, g7, g8, g9, g10, g11⟩ := h5 i (by omega)
  exact ⟨by show _ = (((I 165 i).toNat : Nat) : Int); omega, by show (I 165 i).toNat ≤ 5; omega, by show _ = (((I 166 i).toNat : Nat) : Int); omega, by show (I 166 i).toNat < 5; omega, by show _ = (((I 167 i).toNat : Nat) : Int); omega, by show (I 167 i).toNat < 5; omega, by show _ = (((I 168 i).toNat : Nat) : Int); omega, by show (I 168 i).toNat ≤ 1; omega⟩
theorem WB57.sn {I J : Nat → Nat → Int} (h : WB57_1 I J) (he : RNe I) {m : Nat} {sw so st sm : Nat → Nat} (hm : SNM I m sw so st sm) : SNT J m sw so st sm := by
  obtain ⟨h1, h2, h3, h4, h5⟩ := he
  obtain ⟨g1, g2, g3⟩ := hm
  have hb := h.2.2.2.2.1
  refine ⟨by rw [hb.1]; omega, g2, fun i hi => ?_⟩
  obtain ⟨k1, k2, k3, k4, k5, k6, k7, k8⟩ := g3 i hi
  obtain ⟨q1, q2, q3, q4, q5, q6, q7, q8, q9, q10, q11⟩ := h5 i (by omega)
  rw [hb.2 _ (by omega), hb.2 _ (by omega), hb.2 _ (by omega), hb.2 _ (by omega)]
  exact ⟨by rw [Nat.add_zero]; omega, k2, by omega, k4, by omega, k6, by omega, k8⟩

set_option maxRecDepth 8000 in
set_option maxHeartbeats 1000000 in
theorem lp_Gseen {sc : List Int} {I : Nat → Nat → Int} {L : Nat → Nat → Int64} {c : Nat} {vo : Nat → Int} {qv : Int} {lk : Nat → Nat → Int} (hB : BW I c lk vo qv) {p : Nat} (hp : p < c) {m : Nat} {sw so st sm : Nat → Nat} (hS : SNT I m sw so st sm) (i : Nat) (hi : i ≤ m) : x_Ex sc 5 xM_G_isAsSeen 25 [(4, xi (↑i)), (3, xr 61), (2, xr (94 + p)), (0, xr 0), (1, xi (↑p))] [] (xSH, I, L) (fun r m' => r = some (xi (x_b ((sp_seen lk p sw so st sm (m - i) i) = true))) ∧ m' = (xSH, I, L)) := by
  obtain ⟨hS1, hS2, hS3⟩ := id hS
  obtain ⟨hbc, hc6, hl, hbv, hbq⟩ := id hB
  have hrow := fun (h : i < m) => hS3 i h
  refine ex_st 3 (pc' := 31) (ls' := [(4, xi (↑i)), (3, xr 61), (2, xr (94 + p)), (0, xr 0), (1, xi (↑p))]) (st' := [xi (I 61 2), xi (↑i)]) rfl ?_
  rw [hS1]
  refine ex_ic rfl (by first | omega | (constructor <;> omega) | exact (hl p _ (by omega) (by omega)).2 | assumption | exact x_bR _) (by first | omega | (constructor <;> omega) | exact (hl p _ (by omega) (by omega)).2 | assumption | exact x_bR _) (fun (h0 : (↑m : Int) ≤ (↑i : Int)) => ?_) (fun (h0 : ¬ (↑m : Int) ≤ (↑i : Int)) => ?_)
  · refine ex_st 1 (pc' := 103) (ls' := [(4, xi (↑i)), (3, xr 61), (2, xr (94 + p)), (0, xr 0), (1, xi (↑p))]) (st' := [xi 1]) rfl ?_
    refine ex_retz rfl (Or.inr rfl) rfl ?_
    obtain rfl : i = m := by omega
    rw [show i - i = 0 by omega]
    exact ⟨rfl, rfl⟩
  · obtain ⟨p1, p2, p3, p4, p5, p6, p7, p8⟩ := hS3 i (by omega)
    refine ex_st 4 (pc' := 39) (ls' := [(4, xi (↑i)), (3, xr 61), (2, xr (94 + p)), (0, xr 0), (1, xi (↑p))]) (st' := [xi 1, xi (↑i), xr 61, xr (94 + p)]) rfl ?_
    have hrw : x_CE sc 1 xN_Rw_at [xr 61, xi (↑i), xi 1] (xSH, I, L) (some (xi (↑(so i)))) (xSH, I, L) := by
      have h9 := ct_Rw_at (sc := sc) (I := I) (L := L) (A := 61) (cap := 5) rfl rfl (by decide) (by decide) (a := i) (b := 1) (by omega) (by decide)
      rw [show I (61 + 1) (i * 4 + 1) = ((so i : Nat) : Int) from (hS3 i (by omega)).2.2.1] at h9
      exact h9
    refine ex_call hrw (by decide) rfl ⟨rfl, rfl, rfl⟩ ⟨Nat.le_of_ble_eq_true rfl, rfl, rfl⟩ (Nat.le_of_ble_eq_true rfl) rfl ?_
    refine ex_iald (j := ((so i))) rfl (by omega) (x_sh94 p (by omega)) (by omega) (by omega) (by decide) ?_
    rw [(hl p (so i) (by omega) (by omega)).1]
    refine ex_st 4 (pc' := 48) (ls' := [(4, xi (↑i)), (3, xr 61), (2, xr (94 + p)), (0, xr 0), (1, xi (↑p))]) (st' := [xi 2, xi (↑i), xr 61, xr (94 + p), xi (lk p (so i))]) rfl ?_
    have hrw : x_CE sc 1 xN_Rw_at [xr 61, xi (↑i), xi 2] (xSH, I, L) (some (xi (↑(st i)))) (xSH, I, L) := by
      have h9 := ct_Rw_at (sc := sc) (I := I) (L := L) (A := 61) (cap := 5) rfl rfl (by decide) (by decide) (a := i) (b := 2) (by omega) (by decide)
      rw [show I (61 + 1) (i * 4 + 2) = ((st i : Nat) : Int) from (hS3 i (by omega)).2.2.2.2.1] at h9
      exact h9
    refine ex_call hrw (by decide) rfl ⟨rfl, rfl, rfl⟩ ⟨Nat.le_of_ble_eq_true rfl, rfl, rfl⟩ (Nat.le_of_ble_eq_true rfl) rfl ?_
    refine ex_iald (j := ((st i))) rfl (by omega) (x_sh94 p (by omega)) (by omega) (by omega) (by decide) ?_
    rw [(hl p (st i) (by omega) (by omega)).1]
    refine ex_ic rfl (by first | omega | (constructor <;> omega) | exact (hl p _ (by omega) (by omega)).2 | assumption | exact x_bR _) (by first | omega | (constructor <;> omega) | exact (hl p _ (by omega) (by omega)).2 | assumption | exact x_bR _) (fun (h1 : (lk p (so i)) ≤ (lk p (st i))) => ?_) (fun (h1 : ¬ (lk p (so i)) ≤ (lk p (st i))) => ?_)
    · refine ex_st 5 (pc' := 66) (ls' := [(5, xi 0), (4, xi (↑i)), (3, xr 61), (2, xr (94 + p)), (0, xr 0), (1, xi (↑p))]) (st' := [xi 0, xi (↑i), xr 61]) rfl ?_
      have hrw : x_CE sc 1 xN_Rw_at [xr 61, xi (↑i), xi 0] (xSH, I, L) (some (xi (↑(sw i)))) (xSH, I, L) := by
        have h9 := ct_Rw_at (sc := sc) (I := I) (L := L) (A := 61) (cap := 5) rfl rfl (by decide) (by decide) (a := i) (b := 0) (by omega) (by decide)
        rw [show I (61 + 1) (i * 4 + 0) = ((sw i : Nat) : Int) from (hS3 i (by omega)).1] at h9
        exact h9
      refine ex_call hrw (by decide) rfl ⟨rfl, rfl, rfl⟩ ⟨Nat.le_of_ble_eq_true rfl, rfl, rfl⟩ (Nat.le_of_ble_eq_true rfl) rfl ?_
      refine ex_st 1 (pc' := 70) (ls' := [(5, xi 0), (4, xi (↑i)), (3, xr 61), (2, xr (94 + p)), (0, xr 0), (1, xi (↑p))]) (st' := [xi (↑p), xi (↑(sw i))]) rfl ?_
      refine ex_ic rfl (by first | omega | (constructor <;> omega) | exact (hl p _ (by omega) (by omega)).2 | assumption | exact x_bR _) (by first | omega | (constructor <;> omega) | exact (hl p _ (by omega) (by omega)).2 | assumption | exact x_bR _) (fun (h2 : ¬ (↑(sw i) : Int) = (↑p : Int)) => ?_) (fun (h2 : ¬ ¬ (↑(sw i) : Int) = (↑p : Int)) => ?_)
      · refine ex_st 2 (pc' := 25) (ls' := [(4, xi ((↑i) + 1)), (5, xi 0), (3, xr 61), (2, xr (94 + p)), (0, xr 0), (1, xi (↑p))]) (st' := []) rfl ?_
        have e9 : sp_okr lk p sw so st sm i = true := by unfold sp_okr; exact decide_eq_true (fun q => by omega)
        have e8 : (sp_seen lk p sw so st sm (m - i) i) = (sp_seen lk p sw so st sm (m - (i + 1)) (i + 1)) := by rw [show m - i = (m - (i + 1)) + 1 by omega]; show (_ && _) = _; rw [e9]; rfl
        have h9 := lp_Gseen (sc := sc) (L := L) hB hp hS (i + 1) (by omega)
        rw [e8]
        exact ex_pm _ (fun i => by rcases i with _ | _ | _ | _ | _ | _ | _ | _ | _ | i <;> first | (right; rfl) | (left; rfl)) h9
      · refine ex_st 4 (pc' := 79) (ls' := [(5, xi 0), (4, xi (↑i)), (3, xr 61), (2, xr (94 + p)), (0, xr 0), (1, xi (↑p))]) (st' := [xi 3, xi (↑i), xr 61, xi 0]) rfl ?_
        have hrw : x_CE sc 1 xN_Rw_at [xr 61, xi (↑i), xi 3] (xSH, I, L) (some (xi (↑(sm i)))) (xSH, I, L) := by
          have h9 := ct_Rw_at (sc := sc) (I := I) (L := L) (A := 61) (cap := 5) rfl rfl (by decide) (by decide) (a := i) (b := 3) (by omega) (by decide)
          rw [show I (61 + 1) (i * 4 + 3) = ((sm i : Nat) : Int) from (hS3 i (by omega)).2.2.2.2.2.2.1] at h9
          exact h9
        refine ex_call hrw (by decide) rfl ⟨rfl, rfl, rfl⟩ ⟨Nat.le_of_ble_eq_true rfl, rfl, rfl⟩ (Nat.le_of_ble_eq_true rfl) rfl ?_
        refine ex_st 1 (pc' := 83) (ls' := [(5, xi 0), (4, xi (↑i)), (3, xr 61), (2, xr (94 + p)), (0, xr 0), (1, xi (↑p))]) (st' := [xi 1, xi (↑(sm i)), xi 0]) rfl ?_
        refine ex_ic rfl (by first | omega | (constructor <;> omega) | exact (hl p _ (by omega) (by omega)).2 | assumption | exact x_bR _) (by decide) (fun (h3 : ¬ (↑(sm i) : Int) = 1) => ?_) (fun (h3 : ¬ ¬ (↑(sm i) : Int) = 1) => ?_)
        · refine ex_st 1 (pc' := 91) (ls' := [(5, xi 0), (4, xi (↑i)), (3, xr 61), (2, xr (94 + p)), (0, xr 0), (1, xi (↑p))]) (st' := [xi 0, xi 0]) rfl ?_
          refine ex_st 1 (pc' := 96) (ls' := [(5, xi 0), (4, xi (↑i)), (3, xr 61), (2, xr (94 + p)), (0, xr 0), (1, xi (↑p))]) (st' := []) rfl ?_
          refine ex_st 2 (pc' := 25) (ls' := [(4, xi ((↑i) + 1)), (5, xi 0), (3, xr 61), (2, xr (94 + p)), (0, xr 0), (1, xi (↑p))]) (st' := []) rfl ?_
          have e9 : sp_okr lk p sw so st sm i = true := by unfold sp_okr; exact decide_eq_true (fun q => by omega)
          have e8 : (sp_seen lk p sw so st sm (m - i) i) = (sp_seen lk p sw so st sm (m - (i + 1)) (i + 1)) := by rw [show m - i = (m - (i + 1)) + 1 by omega]; show (_ && _) = _; rw [e9]; rfl
          have h9 := lp_Gseen (sc := sc) (L := L) hB hp hS (i + 1) (by omega)
          rw [e8]
          exact ex_pm _ (fun i => by rcases i with _ | _ | _ | _ | _ | _ | _ | _ | _ | i <;> first | (right; rfl) | (left; rfl)) h9
        · refine ex_st 2 (pc' := 91) (ls' := [(5, xi 0), (4, xi (↑i)), (3, xr 61), (2, xr (94 + p)), (0, xr 0), (1, xi (↑p))]) (st' := [xi 1, xi 0]) rfl ?_
          refine ex_st 1 (pc' := 94) (ls' := [(5, xi 0), (4, xi (↑i)), (3, xr 61), (2, xr (94 + p)), (0, xr 0), (1, xi (↑p))]) (st' := []) rfl ?_
          refine ex_st 1 (pc' := 95) (ls' := [(5, xi 0), (4, xi (↑i)), (3, xr 61), (2, xr (94 + p)), (0, xr 0), (1, xi (↑p))]) (st' := [xi 0]) rfl ?_
          refine ex_retz rfl (Or.inl rfl) rfl ?_
          have e9 : sp_okr lk p sw so st sm i = false := by unfold sp_okr; exact decide_eq_false (fun q => by have q2 := q (by omega); omega)
          have e8 : (sp_seen lk p sw so st sm (m - i) i) = false := by rw [show m - i = (m - (i + 1)) + 1 by omega]; show (_ && _) = _; rw [e9]; rfl
          rw [e8]
          exact ⟨rfl, rfl⟩
    · refine ex_st 6 (pc' := 66) (ls' := [(5, xi 1), (4, xi (↑i)), (3, xr 61), (2, xr (94 + p)), (0, xr 0), (1, xi (↑p))]) (st' := [xi 0, xi (↑i), xr 61]) rfl ?_
      have hrw : x_CE sc 1 xN_Rw_at [xr 61, xi (↑i), xi 0] (xSH, I, L) (some (xi (↑(sw i)))) (xSH, I, L) := by
        have h9 := ct_Rw_at (sc := sc) (I := I) (L := L) (A := 61) (cap := 5) rfl rfl (by decide) (by decide) (a := i) (b := 0) (by omega) (by decide)
        rw [show I (61 + 1) (i * 4 + 0) = ((sw i : Nat) : Int) from (hS3 i (by omega)).1] at h9
        exact h9
      refine ex_call hrw (by decide) rfl ⟨rfl, rfl, rfl⟩ ⟨Nat.le_of_ble_eq_true rfl, rfl, rfl⟩ (Nat.le_of_ble_eq_true rfl) rfl ?_
      refine ex_st 1 (pc' := 70) (ls' := [(5, xi 1), (4, xi (↑i)), (3, xr 61), (2, xr (94 + p)), (0, xr 0), (1, xi (↑p))]) (st' := [xi (↑p), xi (↑(sw i))]) rfl ?_
      refine ex_ic rfl (by first | omega | (constructor <;> omega) | exact (hl p _ (by omega) (by omega)).2 | assumption | exact x_bR _) (by first | omega | (constructor <;> omega) | exact (hl p _ (by omega) (by omega)).2 | assumption | exact x_bR _) (fun (h4 : ¬ (↑(sw i) : Int) = (↑p : Int)) => ?_) (fun (h4 : ¬ ¬ (↑(sw i) : Int) = (↑p : Int)) => ?_)
      · refine ex_st 2 (pc' := 25) (ls' := [(4, xi ((↑i) + 1)), (5, xi 1), (3, xr 61), (2, xr (94 + p)), (0, xr 0), (1, xi (↑p))]) (st' := []) rfl ?_
        have e9 : sp_okr lk p sw so st sm i = true := by unfold sp_okr; exact decide_eq_true (fun q => by omega)
        have e8 : (sp_seen lk p sw so st sm (m - i) i) = (sp_seen lk p sw so st sm (m - (i + 1)) (i + 1)) := by rw [show m - i = (m - (i + 1)) + 1 by omega]; show (_ && _) = _; rw [e9]; rfl
        have h9 := lp_Gseen (sc := sc) (L := L) hB hp hS (i + 1) (by omega)
        rw [e8]
        exact ex_pm _ (fun i => by rcases i with _ | _ | _ | _ | _ | _ | _ | _ | _ | i <;> first | (right; rfl) | (left; rfl)) h9
      · refine ex_st 4 (pc' := 79) (ls' := [(5, xi 1), (4, xi (↑i)), (3, xr 61), (2, xr (94 + p)), (0, xr 0), (1, xi (↑p))]) (st' := [xi 3, xi (↑i), xr 61, xi 1]) rfl ?_
        have hrw : x_CE sc 1 xN_Rw_at [xr 61, xi (↑i), xi 3] (xSH, I, L) (some (xi (↑(sm i)))) (xSH, I, L) := by
          have h9 := ct_Rw_at (sc := sc) (I := I) (L := L) (A := 61) (cap := 5) rfl rfl (by decide) (by decide) (a := i) (b := 3) (by omega) (by decide)
          rw [show I (61 + 1) (i * 4 + 3) = ((sm i : Nat) : Int) from (hS3 i (by omega)).2.2.2.2.2.2.1] at h9
          exact h9
        refine ex_call hrw (by decide) rfl ⟨rfl, rfl, rfl⟩ ⟨Nat.le_of_ble_eq_true rfl, rfl, rfl⟩ (Nat.le_of_ble_eq_true rfl) rfl ?_
        refine ex_st 1 (pc' := 83) (ls' := [(5, xi 1), (4, xi (↑i)), (3, xr 61), (2, xr (94 + p)), (0, xr 0), (1, xi (↑p))]) (st' := [xi 1, xi (↑(sm i)), xi 1]) rfl ?_
        refine ex_ic rfl (by first | omega | (constructor <;> omega) | exact (hl p _ (by omega) (by omega)).2 | assumption | exact x_bR _) (by decide) (fun (h5 : ¬ (↑(sm i) : Int) = 1) => ?_) (fun (h5 : ¬ ¬ (↑(sm i) : Int) = 1) => ?_)
        · refine ex_st 1 (pc' := 91) (ls' := [(5, xi 1), (4, xi (↑i)), (3, xr 61), (2, xr (94 + p)), (0, xr 0), (1, xi (↑p))]) (st' := [xi 0, xi 1]) rfl ?_
          refine ex_st 1 (pc' := 94) (ls' := [(5, xi 1), (4, xi (↑i)), (3, xr 61), (2, xr (94 + p)), (0, xr 0), (1, xi (↑p))]) (st' := []) rfl ?_
          refine ex_st 1 (pc' := 95) (ls' := [(5, xi 1), (4, xi (↑i)), (3, xr 61), (2, xr (94 + p)), (0, xr 0), (1, xi (↑p))]) (st' := [xi 0]) rfl ?_
          refine ex_retz rfl (Or.inl rfl) rfl ?_
          have e9 : sp_okr lk p sw so st sm i = false := by unfold sp_okr; exact decide_eq_false (fun q => by have q2 := q (by omega); omega)
          have e8 : (sp_seen lk p sw so st sm (m - i) i) = false := by rw [show m - i = (m - (i + 1)) + 1 by omega]; show (_ && _) = _; rw [e9]; rfl
          rw [e8]
          exact ⟨rfl, rfl⟩
        · refine ex_st 2 (pc' := 91) (ls' := [(5, xi 1), (4, xi (↑i)), (3, xr 61), (2, xr (94 + p)), (0, xr 0), (1, xi (↑p))]) (st' := [xi 1, xi 1]) rfl ?_
          refine ex_st 1 (pc' := 96) (ls' := [(5, xi 1), (4, xi (↑i)), (3, xr 61), (2, xr (94 + p)), (0, xr 0), (1, xi (↑p))]) (st' := []) rfl ?_
          refine ex_st 2 (pc' := 25) (ls' := [(4, xi ((↑i) + 1)), (5, xi 1), (3, xr 61), (2, xr (94 + p)), (0, xr 0), (1, xi (↑p))]) (st' := []) rfl ?_
          have e9 : sp_okr lk p sw so st sm i = true := by unfold sp_okr; exact decide_eq_true (fun q => by omega)
          have e8 : (sp_seen lk p sw so st sm (m - i) i) = (sp_seen lk p sw so st sm (m - (i + 1)) (i + 1)) := by rw [show m - i = (m - (i + 1)) + 1 by omega]; show (_ && _) = _; rw [e9]; rfl
          have h9 := lp_Gseen (sc := sc) (L := L) hB hp hS (i + 1) (by omega)
          rw [e8]
          exact ex_pm _ (fun i => by rcases i with _ | _ | _ | _ | _ | _ | _ | _ | _ | i <;> first | (right; rfl) | (left; rfl)) h9
termination_by m - i
decreasing_by all_goals (omega)
theorem ct_G_isAsSeen {sc : List Int} {I : Nat → Nat → Int} {L : Nat → Nat → Int64} {c : Nat} {kd : Nat → Nat} {vv vo aw : Nat → Int} {ba ro : Nat → Nat → Int} {egg : Int} {se : Nat} (hW : WW I 57 c kd vv vo aw ba ro egg se) {t : Int} {T nn cc : Nat} {cd we : Nat → Int} {en : Nat → Nat} {qv : Int} (hX : TRx I t T nn cc cd we en qv) (ht : I 57 7 = t) {p : Nat} (hp : p < c) {m : Nat} {sw so st sm : Nat → Nat} (hS : SNT I m sw so st sm) : x_CQ sc 6 xN_G_isAsSeen [xr 0, xi (↑p)] (xSH, I, L) (fun r m' => r = some (xi (x_b ((sp_seen (sp_lk kd vv ba ro egg se cd we en cc) p sw so st sm m 0) = true))) ∧ ∃ J, m' = (xSH, J, L) ∧ ∀ k j, k < 92 ∨ 102 < k → J k j = I k j) := by
  obtain ⟨u1, u2, u3, u4, u5, u6, u7, u8, u9, u10⟩ := hX
  have hc6 := hW.2.1
  refine x_CQ.of (M := xM_G_isAsSeen) rfl (Nat.le_of_ble_eq_true rfl) ?_
  refine ex_st 3 (pc' := 5) (ls' := [(0, xr 0), (1, xi (↑p))]) (st' := [xr 57, xr 0]) rfl ?_
  refine ex_callQ (ct_G_ballotOf (L := L) WS.mk57 hW u2 u3 u4 u5 u6 u7 u8 ht u9 u1) (by decide) rfl ⟨rfl, rfl, rfl⟩ ⟨Nat.le_of_ble_eq_true rfl, rfl, rfl⟩ (Nat.le_of_ble_eq_true rfl) rfl (fun ra m2 hQ => ?_)
  obtain ⟨rfl, J, rfl, hJ, hBW, hP, hBM⟩ := hQ
  refine ex_st 2 (pc' := 12) (ls' := [(0, xr 0), (1, xi (↑p))]) (st' := [xi (↑p), xr 93]) rfl ?_
  refine ex_aald (q := 94 + p) (j := p) rfl (by decide) (rfl : xSH[93]? = some _) (by decide) (by omega) (by omega) (by decide) (x_aa93 p (by omega)) (by omega) ?_
  refine ex_st 7 (pc' := 25) (ls' := [(4, xi 0), (3, xr 61), (2, xr (94 + p)), (0, xr 0), (1, xi (↑p))]) (st' := []) rfl ?_
  refine x_Ex.mono (lp_Gseen hBW hp (hS.fr (fun k j a b => hJ k j (by omega))) 0 (Nat.zero_le _)) (fun r m' h => ?_)
  obtain ⟨h1, h2⟩ := h
  exact ⟨h1, J, h2, hJ⟩
set_option maxRecDepth 8000 in
set_option maxHeartbeats 1000000 in
theorem lp_Mseen {sc : List Int} {I : Nat → Nat → Int} {L : Nat → Nat → Int64} {c : Nat} {kd : Nat → Nat} {vv vo aw : Nat → Int} {ba ro : Nat → Nat → Int} {egg : Int} {se : Nat} (hM : MW I c kd vv vo aw ba ro egg se) {cc : Nat} {cd we : Nat → Int} {en : Nat → Nat} {qv : Int} (hT : MT I cc cd we en qv) {lk : Nat → Nat → Int} (hlk : lk = (sp_lk kd vv ba ro egg se cd we en cc)) {p : Nat} (hp : p < c) {m : Nat} {sw so st sm : Nat → Nat} (hS : SNM I m sw so st sm) {I1 : Nat → Nat → Int} (hF : ∀ k j, k ≠ 160 → I1 k j = I k j) (i : Nat) (hi : i ≤ m) : x_Ex sc 26 xM_m_isSeen 2 [(2, xi (↑i)), (0, xr 143), (1, xi (↑p))] [] (xSH, I1, L) (fun r m' => r = some (xi (x_b ((sp_seen lk p sw so st sm (m - i) i) = true))) ∧ ∃ I', m' = (xSH, I', L) ∧ ∀ k j, k ≠ 160 → I' k j = I k j) := by
  obtain ⟨hS1, hS2, hS3⟩ := id hS
  have hc6 := hM.2.1
  have hlR : ∀ x, x < 5 → x_R (lk p x) := fun x hx => by rw [hlk]; exact sp_lk_R2 hM hT hp hx
  refine ex_st 3 (pc' := 7) (ls' := [(2, xi (↑i)), (0, xr 143), (1, xi (↑p))]) (st' := [xi (I1 143 38), xi (↑i)]) rfl ?_
  rw [hF _ _ (by decide), hS1]
  refine ex_ic rfl (by first | omega | (constructor <;> omega) | exact hlR _ (by omega) | assumption | exact x_bR _) (by first | omega | (constructor <;> omega) | exact hlR _ (by omega) | assumption | exact x_bR _) (fun (h0 : (↑m : Int) ≤ (↑i : Int)) => ?_) (fun (h0 : ¬ (↑m : Int) ≤ (↑i : Int)) => ?_)
  · refine ex_st 1 (pc' := 68) (ls' := [(2, xi (↑i)), (0, xr 143), (1, xi (↑p))]) (st' := [xi 1]) rfl ?_
    refine ex_retz rfl (Or.inr rfl) rfl ?_
    obtain rfl : i = m := by omega
    rw [show i - i = 0 by omega]
    exact ⟨rfl, I1, rfl, hF⟩
  · obtain ⟨p1, p2, p3, p4, p5, p6, p7, p8⟩ := hS3 i (by omega)
    refine ex_st 3 (pc' := 15) (ls' := [(2, xi (↑i)), (0, xr 143), (1, xi (↑p))]) (st' := [xi (↑i), xr 165]) rfl ?_
    refine ex_iald (j := i) rfl (by decide) (rfl : xSH[165]? = some _) (by omega) (by omega) (by decide) ?_
    rw [hF _ _ (by decide), p1]
    refine ex_st 1 (pc' := 17) (ls' := [(2, xi (↑i)), (0, xr 143), (1, xi (↑p))]) (st' := [xi (↑p), xi (↑(sw i))]) rfl ?_
    refine ex_ic rfl (by first | omega | (constructor <;> omega) | exact hlR _ (by omega) | assumption | exact x_bR _) (by first | omega | (constructor <;> omega) | exact hlR _ (by omega) | assumption | exact x_bR _) (fun (h1 : ¬ (↑(sw i) : Int) = (↑p : Int)) => ?_) (fun (h1 : ¬ ¬ (↑(sw i) : Int) = (↑p : Int)) => ?_)
    · refine ex_st 2 (pc' := 2) (ls' := [(2, xi ((↑i) + 1)), (0, xr 143), (1, xi (↑p))]) (st' := []) rfl ?_
      have e9 : sp_okr lk p sw so st sm i = true := by unfold sp_okr; exact decide_eq_true (fun q => by omega)
      have e8 : (sp_seen lk p sw so st sm (m - i) i) = (sp_seen lk p sw so st sm (m - (i + 1)) (i + 1)) := by rw [show m - i = (m - (i + 1)) + 1 by omega]; show (_ && _) = _; rw [e9]; rfl
      have h9 := lp_Mseen (sc := sc) (L := L) hM hT hlk hp hS hF (i + 1) (by omega)
      rw [e8]
      exact ex_pm _ (fun i => by rcases i with _ | _ | _ | _ | _ | _ | _ | _ | _ | i <;> first | (right; rfl) | (left; rfl)) h9
    · refine ex_st 5 (pc' := 27) (ls' := [(2, xi (↑i)), (0, xr 143), (1, xi (↑p))]) (st' := [xi (↑i), xr 166, xi (↑p), xr 143]) rfl ?_
      refine ex_iald (j := i) rfl (by decide) (rfl : xSH[166]? = some _) (by omega) (by omega) (by decide) ?_
      rw [hF _ _ (by decide), p3]
      refine ex_callQ (ct_m_likes (L := L) hM hT (p := p) (x := so i) hp (by omega) hF) (by decide) rfl ⟨rfl, rfl, rfl⟩ ⟨Nat.le_of_ble_eq_true rfl, rfl, rfl⟩ (Nat.le_of_ble_eq_true rfl) rfl (fun ra m2 hQ => ?_)
      obtain ⟨rfl, I2, rfl, hF2⟩ := hQ
      rw [show (sp_lk kd vv ba ro egg se cd we en cc) p (so i) = lk p (so i) from by rw [hlk]]
      refine ex_st 5 (pc' := 38) (ls' := [(2, xi (↑i)), (0, xr 143), (1, xi (↑p))]) (st' := [xi (↑i), xr 167, xi (↑p), xr 143, xi (lk p (so i))]) rfl ?_
      refine ex_iald (j := i) rfl (by decide) (rfl : xSH[167]? = some _) (by omega) (by omega) (by decide) ?_
      rw [hF2 _ _ (by decide), p5]
      refine ex_callQ (ct_m_likes (L := L) hM hT (p := p) (x := st i) hp (by omega) hF2) (by decide) rfl ⟨rfl, rfl, rfl⟩ ⟨Nat.le_of_ble_eq_true rfl, rfl, rfl⟩ (Nat.le_of_ble_eq_true rfl) rfl (fun ra m2 hQ => ?_)
      obtain ⟨rfl, I3, rfl, hF3⟩ := hQ
      rw [show (sp_lk kd vv ba ro egg se cd we en cc) p (st i) = lk p (st i) from by rw [hlk]]
      refine ex_ic rfl (by first | omega | (constructor <;> omega) | exact hlR _ (by omega) | assumption | exact x_bR _) (by first | omega | (constructor <;> omega) | exact hlR _ (by omega) | assumption | exact x_bR _) (fun (h2 : (lk p (so i)) ≤ (lk p (st i))) => ?_) (fun (h2 : ¬ (lk p (so i)) ≤ (lk p (st i))) => ?_)
      · refine ex_st 4 (pc' := 55) (ls' := [(2, xi (↑i)), (0, xr 143), (1, xi (↑p))]) (st' := [xi (↑i), xr 168, xi 0]) rfl ?_
        refine ex_bald (j := i) rfl (by decide) (rfl : xSH[168]? = some _) (by omega) (by omega) (by decide) ?_
        rw [hF3 _ _ (by decide), p7]
        refine ex_ic rfl (by decide) (by first | omega | (constructor <;> omega) | exact hlR _ (by omega) | assumption | exact x_bR _) (fun (h3 : ((0 : Int)) = (↑(sm i) : Int)) => ?_) (fun (h3 : ¬ ((0 : Int)) = (↑(sm i) : Int)) => ?_)
        · refine ex_st 2 (pc' := 2) (ls' := [(2, xi ((↑i) + 1)), (0, xr 143), (1, xi (↑p))]) (st' := []) rfl ?_
          have e9 : sp_okr lk p sw so st sm i = true := by unfold sp_okr; exact decide_eq_true (fun q => by omega)
          have e8 : (sp_seen lk p sw so st sm (m - i) i) = (sp_seen lk p sw so st sm (m - (i + 1)) (i + 1)) := by rw [show m - i = (m - (i + 1)) + 1 by omega]; show (_ && _) = _; rw [e9]; rfl
          have h9 := lp_Mseen (sc := sc) (L := L) hM hT hlk hp hS hF3 (i + 1) (by omega)
          rw [e8]
          exact ex_pm _ (fun i => by rcases i with _ | _ | _ | _ | _ | _ | _ | _ | _ | i <;> first | (right; rfl) | (left; rfl)) h9
        · refine ex_st 1 (pc' := 60) (ls' := [(2, xi (↑i)), (0, xr 143), (1, xi (↑p))]) (st' := [xi 0]) rfl ?_
          refine ex_retz rfl (Or.inl rfl) rfl ?_
          have e9 : sp_okr lk p sw so st sm i = false := by unfold sp_okr; exact decide_eq_false (fun q => by have q2 := q (by omega); omega)
          have e8 : (sp_seen lk p sw so st sm (m - i) i) = false := by rw [show m - i = (m - (i + 1)) + 1 by omega]; show (_ && _) = _; rw [e9]; rfl
          rw [e8]
          exact ⟨rfl, I3, rfl, hF3⟩
      · refine ex_st 5 (pc' := 55) (ls' := [(2, xi (↑i)), (0, xr 143), (1, xi (↑p))]) (st' := [xi (↑i), xr 168, xi 1]) rfl ?_
        refine ex_bald (j := i) rfl (by decide) (rfl : xSH[168]? = some _) (by omega) (by omega) (by decide) ?_
        rw [hF3 _ _ (by decide), p7]
        refine ex_ic rfl (by decide) (by first | omega | (constructor <;> omega) | exact hlR _ (by omega) | assumption | exact x_bR _) (fun (h4 : ((1 : Int)) = (↑(sm i) : Int)) => ?_) (fun (h4 : ¬ ((1 : Int)) = (↑(sm i) : Int)) => ?_)
        · refine ex_st 2 (pc' := 2) (ls' := [(2, xi ((↑i) + 1)), (0, xr 143), (1, xi (↑p))]) (st' := []) rfl ?_
          have e9 : sp_okr lk p sw so st sm i = true := by unfold sp_okr; exact decide_eq_true (fun q => by omega)
          have e8 : (sp_seen lk p sw so st sm (m - i) i) = (sp_seen lk p sw so st sm (m - (i + 1)) (i + 1)) := by rw [show m - i = (m - (i + 1)) + 1 by omega]; show (_ && _) = _; rw [e9]; rfl
          have h9 := lp_Mseen (sc := sc) (L := L) hM hT hlk hp hS hF3 (i + 1) (by omega)
          rw [e8]
          exact ex_pm _ (fun i => by rcases i with _ | _ | _ | _ | _ | _ | _ | _ | _ | i <;> first | (right; rfl) | (left; rfl)) h9
        · refine ex_st 1 (pc' := 60) (ls' := [(2, xi (↑i)), (0, xr 143), (1, xi (↑p))]) (st' := [xi 0]) rfl ?_
          refine ex_retz rfl (Or.inl rfl) rfl ?_
          have e9 : sp_okr lk p sw so st sm i = false := by unfold sp_okr; exact decide_eq_false (fun q => by have q2 := q (by omega); omega)
          have e8 : (sp_seen lk p sw so st sm (m - i) i) = false := by rw [show m - i = (m - (i + 1)) + 1 by omega]; show (_ && _) = _; rw [e9]; rfl
          rw [e8]
          exact ⟨rfl, I3, rfl, hF3⟩
termination_by m - i
decreasing_by all_goals (omega)
theorem ct_m_isSeen {sc : List Int} {I : Nat → Nat → Int} {L : Nat → Nat → Int64} {c : Nat} {kd : Nat → Nat} {vv vo aw : Nat → Int} {ba ro : Nat → Nat → Int} {egg : Int} {se : Nat} (hM : MW I c kd vv vo aw ba ro egg se) {cc : Nat} {cd we : Nat → Int} {en : Nat → Nat} {qv : Int} (hT : MT I cc cd we en qv) {p : Nat} (hp : p < c) {m : Nat} {sw so st sm : Nat → Nat} (hS : SNM I m sw so st sm) : x_CQ sc 27 xN_m_isSeen [xr 143, xi (↑p)] (xSH, I, L) (fun r m' => r = some (xi (x_b ((sp_seen (sp_lk kd vv ba ro egg se cd we en cc) p sw so st sm m 0) = true))) ∧ ∃ I', m' = (xSH, I', L) ∧ ∀ k j, k ≠ 160 → I' k j = I k j) := by
  refine x_CQ.of (M := xM_m_isSeen) rfl (Nat.le_of_ble_eq_true rfl) ?_
  refine ex_st 2 (pc' := 2) (ls' := [(2, xi 0), (0, xr 143), (1, xi (↑p))]) (st' := []) rfl ?_
  exact lp_Mseen hM hT rfl hp hS (fun _ _ _ => rfl) 0 (Nat.zero_le _)
set_option maxRecDepth 8000 in
set_option maxHeartbeats 1000000 in
theorem lp_Gcan {sc : List Int} {L : Nat → Nat → Int64} {c : Nat} {kd : Nat → Nat} {vv vo aw : Nat → Int} {ba ro : Nat → Nat → Int} {egg : Int} {se : Nat} {t : Int} {T nn cc : Nat} {cd we : Nat → Int} {en : Nat → Nat} {qv : Int} {p : Nat} (hp : p < c) {m : Nat} {sw so st sm : Nat → Nat} {Q : Option xPV → xMem → Prop} {w1 : Int} (j : Nat) (hj : j ≤ 10) (I : Nat → Nat → Int) {vx : Nat → Int} (hvx : ∀ q, q ≠ p → vx q = vv q) (hW : WW I 57 c kd vx vo aw ba ro egg se) (hX : TRx I t T nn cc cd we en qv) (ht : I 57 7 = t) (hS : SNT I m sw so st sm) (kk : ∀ I' : Nat → Nat → Int, (∀ k j, ¬ ((57 ≤ k ∧ k ≤ 84) ∨ (92 ≤ k ∧ k ≤ 103)) → I' k j = I k j) → x_Ex sc 29 xM_G_can 78 [(5, xi (-1)), (4, xi ((sp_cn (sp_Pv kd vv ba ro egg se cd we en cc p sw so st sm m) 10).2)), (3, xi (↑((sp_cn (sp_Pv kd vv ba ro egg se cd we en cc p sw so st sm m) 10).1))), (0, xr 0), (1, xi (↑p)), (2, xi w1)] [] (xSH, I', L) Q) : x_Ex sc 29 xM_G_can 38 [(5, xi (((9 : Int) - (↑j : Int)))), (4, xi ((sp_cn (sp_Pv kd vv ba ro egg se cd we en cc p sw so st sm m) j).2)), (3, xi (↑((sp_cn (sp_Pv kd vv ba ro egg se cd we en cc p sw so st sm m) j).1))), (0, xr 0), (1, xi (↑p)), (2, xi w1)] [] (xSH, I, L) Q := by
  have hc6 := hW.2.1
  have hcn := sp_cn_bd (sp_Pv kd vv ba ro egg se cd we en cc p sw so st sm m) j
  refine ex_st 1 (pc' := 40) (ls' := [(5, xi (((9 : Int) - (↑j : Int)))), (4, xi ((sp_cn (sp_Pv kd vv ba ro egg se cd we en cc p sw so st sm m) j).2)), (3, xi (↑((sp_cn (sp_Pv kd vv ba ro egg se cd we en cc p sw so st sm m) j).1))), (0, xr 0), (1, xi (↑p)), (2, xi w1)]) (st' := [xi (((9 : Int) - (↑j : Int)))]) rfl ?_
  refine ex_if rfl (by first | omega | (constructor <;> omega) | assumption | exact x_bR _) (fun (h0 : (((9 : Int) - (↑j : Int))) < 0) => ?_) (fun (h0 : ¬ (((9 : Int) - (↑j : Int))) < 0) => ?_)
  · obtain rfl : j = 10 := by omega
    exact kk I (fun _ _ _ => rfl)
  · obtain ⟨v, hv⟩ : ∃ v : Nat, v = 9 - j := ⟨_, rfl⟩
    rw [show (9 - (↑j : Int)) = ((v : Nat) : Int) by omega]
    refine ex_st 4 (pc' := 51) (ls' := [(5, xi (↑v)), (4, xi ((sp_cn (sp_Pv kd vv ba ro egg se cd we en cc p sw so st sm m) j).2)), (3, xi (↑((sp_cn (sp_Pv kd vv ba ro egg se cd we en cc p sw so st sm m) j).1))), (0, xr 0), (1, xi (↑p)), (2, xi w1)]) (st' := [xi (↑p), xr 58]) rfl ?_
    refine ex_aald (q := 67 + 3 * p) (j := p) rfl (by decide) (rfl : xSH[58]? = some _) (by decide) (by omega) (by omega) (by decide) (x_aa58 p (by omega)) (by omega) ?_
    refine ex_st 1 (pc' := 54) (ls' := [(5, xi (↑v)), (4, xi ((sp_cn (sp_Pv kd vv ba ro egg se cd we en cc p sw so st sm m) j).2)), (3, xi (↑((sp_cn (sp_Pv kd vv ba ro egg se cd we en cc p sw so st sm m) j).1))), (0, xr 0), (1, xi (↑p)), (2, xi w1)]) (st' := [xi (↑v), xr (67 + 3 * p)]) rfl ?_
    refine ex_pfi rfl (by omega) (x_so57 p (by omega)).1 (by decide) rfl (by decide) (fun h => by cases h) ?_
    refine ex_st 2 (pc' := 59) (ls' := [(5, xi (↑v)), (4, xi ((sp_cn (sp_Pv kd vv ba ro egg se cd we en cc p sw so st sm m) j).2)), (3, xi (↑((sp_cn (sp_Pv kd vv ba ro egg se cd we en cc p sw so st sm m) j).1))), (0, xr 0), (1, xi (↑p)), (2, xi w1)]) (st' := [xi (↑p), xr 0]) rfl ?_
    generalize hMm : (x_up I (67 + 3 * p) 1 (↑v)) = K
    have hKf : ∀ k j, ¬ (k = 67 + 3 * p ∧ j = 1) → K k j = I k j := fun k j hk => by rw [← hMm]; exact x_up_far hk
    have hKv : K (67 + 3 * p) 1 = (v : Int) := by rw [← hMm]; exact x_up_at _ _ _ _
    clear hMm
    have g7 := hW.2.2.2.2.2.2
    have tV : ∀ q, q < c → K (57 + 10 + 3 * q) 1 = (fun q => if q = p then (v : Int) else vv q) q ∧ -1000 ≤ (fun q => if q = p then (v : Int) else vv q) q ∧ (fun q => if q = p then (v : Int) else vv q) q ≤ 1000 := by
      intro q hq
      by_cases e : q = p
      · subst e; dsimp only; rw [if_pos rfl]; exact ⟨hKv, by omega, by omega⟩
      · dsimp only; rw [if_neg e, hKf _ _ (by omega), ← hvx q e]; exact ⟨(g7 q hq).1.2.2.1, (g7 q hq).2.2.2.2.2.2.1⟩
    have tB : ∀ q, q < c → ∀ y, y < 5 → K (57 + 10 + 3 * q + 1) y = ba q y ∧ 0 ≤ ba q y ∧ ba q y ≤ 9 := fun q hq y hy => by rw [hKf _ _ (by omega)]; exact (g7 q hq).2.2.2.2.2.1 y hy
    have hWK : WW K 57 c kd (fun q => if q = p then (v : Int) else vv q) vo aw ba ro egg se := hW.gen (hKf _ _ (by omega)) ⟨by rw [hKf _ _ (by omega)]; exact hW.2.2.1, hW.2.2.2.1⟩ ⟨by rw [hKf _ _ (by omega)]; exact hW.2.2.2.2.1, hW.2.2.2.2.2.1⟩ (fun q hq => ⟨hKf _ _ (by omega), hKf _ _ (by omega), fun y hy => hKf _ _ (by omega)⟩) tV (fun q hq => by rw [hKf _ _ (by omega)]; exact ⟨(g7 q hq).2.2.2.1, (g7 q hq).2.2.2.2.1⟩) tB
    have hct := ct_G_isAsSeen (sc := sc) (L := L) hWK (hX.fr (I' := K) (fun k j a b => hKf k j (by omega))) (by rw [hKf _ _ (by omega)]; exact ht) hp (hS.fr (fun k j a b => hKf k j (by omega)))
    change x_CQ sc 6 xN_G_isAsSeen [xr 0, xi (↑p)] (xSH, K, L) (fun r m' => r = some (xi (x_b ((sp_Pv kd vv ba ro egg se cd we en cc p sw so st sm m) v = true))) ∧ ∃ J, m' = (xSH, J, L) ∧ ∀ k j, k < 92 ∨ 102 < k → J k j = K k j) at hct
    refine ex_callQ hct (by decide) rfl ⟨rfl, rfl, rfl⟩ ⟨Nat.le_of_ble_eq_true rfl, rfl, rfl⟩ (Nat.le_of_ble_eq_true rfl) rfl (fun ra m2 hQ => ?_)
    obtain ⟨rfl, J, rfl, hJ⟩ := hQ
    refine ex_beq rfl (fun h1 => ?_) (fun h1 => ?_)
    · refine ex_st 2 (pc' := 38) (ls' := [(5, xi ((↑v) + (-1))), (4, xi ((sp_cn (sp_Pv kd vv ba ro egg se cd we en cc p sw so st sm m) j).2)), (3, xi (↑((sp_cn (sp_Pv kd vv ba ro egg se cd we en cc p sw so st sm m) j).1))), (0, xr 0), (1, xi (↑p)), (2, xi w1)]) (st' := []) rfl ?_
      have e9 : sp_cn (sp_Pv kd vv ba ro egg se cd we en cc p sw so st sm m) (j + 1) = sp_cn (sp_Pv kd vv ba ro egg se cd we en cc p sw so st sm m) j := by show (if _ then _ else _) = _; rw [← hv]; rw [if_neg (by assumption)]
      rw [show ((↑v : Int) + (-1)) = 9 - ((j + 1 : Nat) : Int) by omega]
      have hJI : ∀ k j, ¬ ((57 ≤ k ∧ k ≤ 84) ∨ (92 ≤ k ∧ k ≤ 103)) → J k j = I k j := fun k j hk => by rw [hJ _ _ (by omega), hKf _ _ (by omega)]
      have hWJ := hWK.set (I' := J) (egg' := egg) (se' := se) (fun k j a b => hJ k j (by omega)) (hJ _ _ (by omega)) ⟨by rw [hJ _ _ (by omega)]; exact hWK.2.2.1, hWK.2.2.2.1⟩ ⟨by rw [hJ _ _ (by omega)]; exact hWK.2.2.2.2.1, hWK.2.2.2.2.2.1⟩
      have h9 := lp_Gcan (sc := sc) (L := L) hp (w1 := w1) (Q := Q) (j + 1) (by omega) J (fun q hq => if_neg hq) hWJ (hX.fr (fun k j a b => hJI k j (by omega))) (by rw [hJ _ _ (by omega), hKf _ _ (by omega)]; exact ht) (hS.fr (fun k j a b => by rw [hJ _ _ (by omega), hKf _ _ (by omega)])) (fun I' g => kk I' (fun k j hk => by rw [g k j hk, hJI k j hk]))
      rw [e9] at h9
      exact ex_pm _ (fun i => by rcases i with _ | _ | _ | _ | _ | _ | _ | _ | _ | i <;> first | (right; rfl) | (left; rfl)) h9
    · refine ex_st 5 (pc' := 38) (ls' := [(5, xi ((↑v) + (-1))), (4, xi (↑v)), (3, xi ((↑((sp_cn (sp_Pv kd vv ba ro egg se cd we en cc p sw so st sm m) j).1)) + 1)), (0, xr 0), (1, xi (↑p)), (2, xi w1)]) (st' := []) rfl ?_
      have e9 : sp_cn (sp_Pv kd vv ba ro egg se cd we en cc p sw so st sm m) (j + 1) = ((sp_cn (sp_Pv kd vv ba ro egg se cd we en cc p sw so st sm m) j).1 + 1, (v : Int)) := by show (if _ then _ else _) = _; rw [← hv]; rw [if_pos (by assumption)]
      rw [show ((↑v : Int) + (-1)) = 9 - ((j + 1 : Nat) : Int) by omega]
      have hJI : ∀ k j, ¬ ((57 ≤ k ∧ k ≤ 84) ∨ (92 ≤ k ∧ k ≤ 103)) → J k j = I k j := fun k j hk => by rw [hJ _ _ (by omega), hKf _ _ (by omega)]
      have hWJ := hWK.set (I' := J) (egg' := egg) (se' := se) (fun k j a b => hJ k j (by omega)) (hJ _ _ (by omega)) ⟨by rw [hJ _ _ (by omega)]; exact hWK.2.2.1, hWK.2.2.2.1⟩ ⟨by rw [hJ _ _ (by omega)]; exact hWK.2.2.2.2.1, hWK.2.2.2.2.2.1⟩
      have h9 := lp_Gcan (sc := sc) (L := L) hp (w1 := w1) (Q := Q) (j + 1) (by omega) J (fun q hq => if_neg hq) hWJ (hX.fr (fun k j a b => hJI k j (by omega))) (by rw [hJ _ _ (by omega), hKf _ _ (by omega)]; exact ht) (hS.fr (fun k j a b => by rw [hJ _ _ (by omega), hKf _ _ (by omega)])) (fun I' g => kk I' (fun k j hk => by rw [g k j hk, hJI k j hk]))
      rw [e9] at h9
      exact ex_pm _ (fun i => by rcases i with _ | _ | _ | _ | _ | _ | _ | _ | _ | i <;> first | (right; rfl) | (left; rfl)) h9
termination_by 10 - j
decreasing_by all_goals (omega)
set_option maxRecDepth 8000 in
set_option maxHeartbeats 1000000 in
theorem lp_Mcan {sc : List Int} {L : Nat → Nat → Int64} {c : Nat} {kd : Nat → Nat} {vv vo aw : Nat → Int} {ba ro : Nat → Nat → Int} {egg : Int} {se : Nat} {cc : Nat} {cd we : Nat → Int} {en : Nat → Nat} {qv : Int} {p : Nat} (hp : p < c) {m : Nat} {sw so st sm : Nat → Nat} {Q : Option xPV → xMem → Prop} {w1 was : Int} (j : Nat) (hj : j ≤ 10) (I : Nat → Nat → Int) {vx : Nat → Int} (hvx : ∀ q, q ≠ p → vx q = vv q) (hM : MW I c kd vx vo aw ba ro egg se) (hT : MT I cc cd we en qv) (hS : SNM I m sw so st sm) (kk : ∀ I' : Nat → Nat → Int, (∀ k j, ¬ ((k = 145 ∧ j = p) ∨ k = 160) → I' k j = I k j) → x_Ex sc 29 xM_m_can 75 [(6, xi (-1)), (5, xi ((sp_cn (sp_Pv kd vv ba ro egg se cd we en cc p sw so st sm m) 10).2)), (4, xi (↑((sp_cn (sp_Pv kd vv ba ro egg se cd we en cc p sw so st sm m) 10).1))), (3, xi was), (0, xr 143), (1, xi (↑p)), (2, xi w1)] [] (xSH, I', L) Q) : x_Ex sc 29 xM_m_can 38 [(6, xi (((9 : Int) - (↑j : Int)))), (5, xi ((sp_cn (sp_Pv kd vv ba ro egg se cd we en cc p sw so st sm m) j).2)), (4, xi (↑((sp_cn (sp_Pv kd vv ba ro egg se cd we en cc p sw so st sm m) j).1))), (3, xi was), (0, xr 143), (1, xi (↑p)), (2, xi w1)] [] (xSH, I, L) Q := by
  have hc6 := hM.2.1
  have hcn := sp_cn_bd (sp_Pv kd vv ba ro egg se cd we en cc p sw so st sm m) j
  refine ex_st 1 (pc' := 40) (ls' := [(6, xi (((9 : Int) - (↑j : Int)))), (5, xi ((sp_cn (sp_Pv kd vv ba ro egg se cd we en cc p sw so st sm m) j).2)), (4, xi (↑((sp_cn (sp_Pv kd vv ba ro egg se cd we en cc p sw so st sm m) j).1))), (3, xi was), (0, xr 143), (1, xi (↑p)), (2, xi w1)]) (st' := [xi (((9 : Int) - (↑j : Int)))]) rfl ?_
  refine ex_if rfl (by first | omega | (constructor <;> omega) | assumption | exact x_bR _) (fun (h0 : (((9 : Int) - (↑j : Int))) < 0) => ?_) (fun (h0 : ¬ (((9 : Int) - (↑j : Int))) < 0) => ?_)
  · obtain rfl : j = 10 := by omega
    exact kk I (fun _ _ _ => rfl)
  · obtain ⟨v, hv⟩ : ∃ v : Nat, v = 9 - j := ⟨_, rfl⟩
    rw [show (9 - (↑j : Int)) = ((v : Nat) : Int) by omega]
    refine ex_st 4 (pc' := 50) (ls' := [(6, xi (↑v)), (5, xi ((sp_cn (sp_Pv kd vv ba ro egg se cd we en cc p sw so st sm m) j).2)), (4, xi (↑((sp_cn (sp_Pv kd vv ba ro egg se cd we en cc p sw so st sm m) j).1))), (3, xi was), (0, xr 143), (1, xi (↑p)), (2, xi w1)]) (st' := [xi (↑v), xi (↑p), xr 145]) rfl ?_
    refine ex_iast (j := p) rfl (by decide) (rfl : xSH[145]? = some _) (by omega) (by omega) (by decide) ?_
    refine ex_st 2 (pc' := 53) (ls' := [(6, xi (↑v)), (5, xi ((sp_cn (sp_Pv kd vv ba ro egg se cd we en cc p sw so st sm m) j).2)), (4, xi (↑((sp_cn (sp_Pv kd vv ba ro egg se cd we en cc p sw so st sm m) j).1))), (3, xi was), (0, xr 143), (1, xi (↑p)), (2, xi w1)]) (st' := [xi (↑p), xr 143]) rfl ?_
    generalize hMm : (x_up I 145 p (↑v)) = K
    have hKf : ∀ k j, ¬ (k = 145 ∧ j = p) → K k j = I k j := fun k j hk => by rw [← hMm]; exact x_up_far (by omega)
    have hKv : K 145 (p) = (v : Int) := by rw [← hMm]; exact x_up_at2 rfl (by omega)
    clear hMm
    have g8 := hM.2.2.2.2.2.2.2
    have tV : ∀ q, q < c → K 145 q = (fun q => if q = p then (v : Int) else vv q) q ∧ -1000 ≤ (fun q => if q = p then (v : Int) else vv q) q ∧ (fun q => if q = p then (v : Int) else vv q) q ≤ 1000 := by
      intro q hq
      by_cases e : q = p
      · subst e; dsimp only; rw [if_pos rfl]; exact ⟨hKv, by omega, by omega⟩
      · dsimp only; rw [if_neg e, hKf _ _ (by omega), ← hvx q e]; exact ⟨(g8 q hq).2.2.1, (g8 q hq).2.2.2.1⟩
    have tB : ∀ q, q < c → ∀ y, y < 5 → K 147 (5 * q + y) = ba q y ∧ 0 ≤ ba q y ∧ ba q y ≤ 9 := fun q hq y hy => by rw [hKf _ _ (by omega)]; exact (g8 q hq).2.2.2.2.2.2.1 y hy
    have hMK : MW K c kd (fun q => if q = p then (v : Int) else vv q) vo aw ba ro egg se := hM.gen (hKf _ _ (by omega)) ⟨by rw [hKf _ _ (by omega)]; exact hM.2.2.1, hM.2.2.2.1⟩ ⟨by rw [hKf _ _ (by omega)]; exact hM.2.2.2.2.1, hM.2.2.2.2.2.1⟩ (by rw [hKf _ _ (by omega)]; exact hM.2.2.2.2.2.2.1) (fun q hq => ⟨hKf _ _ (by omega), hKf _ _ (by omega), fun y hy => hKf _ _ (by omega)⟩) tV tB
    have hct := ct_m_isSeen (sc := sc) (L := L) hMK (hT.fr3 (I' := K) (hKf _ _ (by omega)) (fun k j a b => hKf k j (by omega))) hp (hS.fr (hKf _ _ (by omega)) (fun k j a b => hKf k j (by omega)))
    change x_CQ sc 27 xN_m_isSeen [xr 143, xi (↑p)] (xSH, K, L) (fun r m' => r = some (xi (x_b ((sp_Pv kd vv ba ro egg se cd we en cc p sw so st sm m) v = true))) ∧ ∃ I', m' = (xSH, I', L) ∧ ∀ k j, k ≠ 160 → I' k j = K k j) at hct
    refine ex_callQ hct (by decide) rfl ⟨rfl, rfl, rfl⟩ ⟨Nat.le_of_ble_eq_true rfl, rfl, rfl⟩ (Nat.le_of_ble_eq_true rfl) rfl (fun ra m2 hQ => ?_)
    obtain ⟨rfl, J, rfl, hJ⟩ := hQ
    refine ex_bne rfl (fun h1 => ?_) (fun h1 => ?_)
    · refine ex_st 5 (pc' := 38) (ls' := [(6, xi ((↑v) + (-1))), (5, xi (↑v)), (4, xi ((↑((sp_cn (sp_Pv kd vv ba ro egg se cd we en cc p sw so st sm m) j).1)) + 1)), (3, xi was), (0, xr 143), (1, xi (↑p)), (2, xi w1)]) (st' := []) rfl ?_
      have e9 : sp_cn (sp_Pv kd vv ba ro egg se cd we en cc p sw so st sm m) (j + 1) = ((sp_cn (sp_Pv kd vv ba ro egg se cd we en cc p sw so st sm m) j).1 + 1, (v : Int)) := by show (if _ then _ else _) = _; rw [← hv]; rw [if_pos (by assumption)]
      rw [show ((↑v : Int) + (-1)) = 9 - ((j + 1 : Nat) : Int) by omega]
      have hJI : ∀ k j, ¬ ((k = 145 ∧ j = p) ∨ k = 160) → J k j = I k j := fun k j hk => by rw [hJ _ _ (by omega), hKf _ _ (by omega)]
      have hMJ := hMK.fr (I' := J) (fun k j hk => hJ k j (by unfold x_ms at hk; omega))
      have h9 := lp_Mcan (sc := sc) (L := L) hp (w1 := w1) (was := was) (Q := Q) (j + 1) (by omega) J (fun q hq => if_neg hq) hMJ (hT.fr3 (hJI _ _ (by omega)) (fun k j a b => hJI k j (by omega))) (hS.fr (hJI _ _ (by omega)) (fun k j a b => hJI k j (by omega))) (fun I' g => kk I' (fun k j hk => by rw [g k j hk, hJI k j hk]))
      rw [e9] at h9
      exact ex_pm _ (fun i => by rcases i with _ | _ | _ | _ | _ | _ | _ | _ | _ | i <;> first | (right; rfl) | (left; rfl)) h9
    · refine ex_st 3 (pc' := 38) (ls' := [(6, xi ((↑v) + (-1))), (5, xi ((sp_cn (sp_Pv kd vv ba ro egg se cd we en cc p sw so st sm m) j).2)), (4, xi (↑((sp_cn (sp_Pv kd vv ba ro egg se cd we en cc p sw so st sm m) j).1))), (3, xi was), (0, xr 143), (1, xi (↑p)), (2, xi w1)]) (st' := []) rfl ?_
      have e9 : sp_cn (sp_Pv kd vv ba ro egg se cd we en cc p sw so st sm m) (j + 1) = sp_cn (sp_Pv kd vv ba ro egg se cd we en cc p sw so st sm m) j := by show (if _ then _ else _) = _; rw [← hv]; rw [if_neg (by assumption)]
      rw [show ((↑v : Int) + (-1)) = 9 - ((j + 1 : Nat) : Int) by omega]
      have hJI : ∀ k j, ¬ ((k = 145 ∧ j = p) ∨ k = 160) → J k j = I k j := fun k j hk => by rw [hJ _ _ (by omega), hKf _ _ (by omega)]
      have hMJ := hMK.fr (I' := J) (fun k j hk => hJ k j (by unfold x_ms at hk; omega))
      have h9 := lp_Mcan (sc := sc) (L := L) hp (w1 := w1) (was := was) (Q := Q) (j + 1) (by omega) J (fun q hq => if_neg hq) hMJ (hT.fr3 (hJI _ _ (by omega)) (fun k j a b => hJI k j (by omega))) (hS.fr (hJI _ _ (by omega)) (fun k j a b => hJI k j (by omega))) (fun I' g => kk I' (fun k j hk => by rw [g k j hk, hJI k j hk]))
      rw [e9] at h9
      exact ex_pm _ (fun i => by rcases i with _ | _ | _ | _ | _ | _ | _ | _ | _ | i <;> first | (right; rfl) | (left; rfl)) h9
termination_by 10 - j
decreasing_by all_goals (omega)
set_option maxRecDepth 8000 in
set_option maxHeartbeats 2000000 in
theorem op_can_0 {sc : List Int} {I : Nat → Nat → Int} {L : Nat → Nat → Int64} (hR : Rl I L) {p : Nat} (hv : (p : Int) < I 1 1) : x_PQ sc xN_G_can [xr 0, xi (↑p), xi 0] xN_m_can [xr 143, xi (↑p), xi 0] (xSH, I, L) := by
  obtain ⟨⟨hNs, hNo, hNa, hNb, hNr, hNd, hNg, hNe, hNp, hNk⟩, hI, hT, hX, hC, hH, hQ⟩ := id hR
  have hs := hNs
  unfold RNs at hs
  obtain ⟨c, kd, vv, vo, aw, ba, ro, egg, se, hWW, hM⟩ := hR.vw
  have hT2 := hT
  unfold RT at hT2
  obtain ⟨T, nn, cc, cd, we, en, qv, hXt⟩ := RT.tr hT (t := I 143 13) (by omega) (by omega)
  have hX2 := id hXt
  obtain ⟨u1, u2, u3, u4, u5, u6, u7, u8, u9, u10⟩ := hX2
  have hMT := u10 rfl
  obtain ⟨g, hg1, hg, hgs, hgp⟩ := hM.pres
  have hI17 : I 1 7 = I 143 13 := by omega
  have hs64 := sp_mask64 (sp_nz aw) (n := c) (by have := hWW.2.1; omega)
  have hsN : sp_mask (sp_nz aw) c = (((sp_mask (sp_nz aw) c).toNat : Nat) : Int) := by have := (sp_mask_bd (sp_nz aw) c).1; omega
  obtain ⟨hg_1, hg_2, hg_3, hg_4, hg_5, hg_6⟩ := id hNg
  obtain ⟨n, hn⟩ := Int.eq_ofNat_of_zero_le hg_2
  obtain ⟨ag, hag0⟩ : ∃ ag : Nat → Nat, ∀ k, ag k = (I 150 k).toNat := ⟨_, fun _ => rfl⟩
  have hag : ∀ k, k < n → I 150 k = (ag k : Int) ∧ ag k < 5 := fun k hk => by have h1 := hg_5 k (by omega); have h2 := hag0 k; omega
  have hvo : ∀ p, p < c → 0 ≤ vo p ∧ vo p ≤ 9 := fun p hp => (hM.2.2.2.2.2.2.2 p hp).2.2.2.2.2.1
  have hb01 : ∀ p, p < 6 → I (11 + 3 * p) 3 = 0 ∨ I (11 + 3 * p) 3 = 1 := fun p hp => by rw [hNa.1 p hp]; exact x_b01 _
  have hze : 0 ≤ I 5 2 ∧ I 5 2 ≤ 5 := by have h1 := hNe.1; have h2 := hNe.2.1; have h3 := hNe.2.2.1; omega
  have hzp : 0 ≤ I 7 2 ∧ I 7 2 ≤ 10 := by have h1 := hNp.1; have h2 := hNp.2.1; have h3 := hNp.2.2.1; omega
  have hzk : 0 ≤ I 9 2 ∧ I 9 2 ≤ 8 := by have h1 := hNk.1; have h2 := hNk.2.1; have h3 := hNk.2.2.1; omega
  have hc1 := hWW.1
  have hp : p < c := x_natC hc1 hv
  obtain ⟨m, sw, so, st, sm, hsn⟩ := hNe.sn
  refine x_CQ.of (M := xM_G_can) rfl (Nat.le_of_ble_eq_true rfl) ?_
  refine ex_st 2 (pc' := 2) (ls' := [(0, xr 0), (1, xi (↑p)), (2, xi 0)]) (st' := [xi (↑p), xr 0]) rfl ?_
  refine ex_call (ct_G_isOfficial2 (c := I 1 1) (by first | omega | (constructor <;> omega) | assumption | ((repeat rw [x_up_far (by omega)]); first | rfl | omega | (constructor <;> omega))) (by (repeat rw [x_up_far (by omega)]); try rfl) (by first | omega | (constructor <;> omega) | assumption | ((repeat rw [x_up_far (by omega)]); first | rfl | omega | (constructor <;> omega)))) (by decide) rfl ⟨rfl, rfl, rfl⟩ ⟨Nat.le_of_ble_eq_true rfl, rfl, rfl⟩ (Nat.le_of_ble_eq_true rfl) rfl ?_
  refine ex_beq rfl (fun h0 => ?_) (fun h0 => ?_)
  · exfalso; omega
  · refine ex_st 1 (pc' := 9) (ls' := [(0, xr 0), (1, xi (↑p)), (2, xi 0)]) (st' := [xi 0]) rfl ?_
    refine ex_call (ct_G_isZeroOrOne (by first | omega | (constructor <;> omega) | assumption)) (by decide) rfl ⟨rfl, rfl, rfl⟩ ⟨Nat.le_of_ble_eq_true rfl, rfl, rfl⟩ (Nat.le_of_ble_eq_true rfl) rfl ?_
    refine ex_bne rfl (fun h1 => ?_) (fun h1 => ?_)
    · refine ex_st 4 (pc' := 25) (ls' := [(0, xr 0), (1, xi (↑p)), (2, xi 0)]) (st' := [xr 1, xr 57]) rfl ?_
      refine ex_callQ (ct_W_become57_1 (L := L) hb01 hze hzp hzk) (by decide) rfl ⟨rfl, rfl, rfl⟩ ⟨Nat.le_of_ble_eq_true rfl, rfl, rfl⟩ (Nat.le_of_ble_eq_true rfl) rfl (fun ra m2 hQ => ?_)
      obtain ⟨rfl, J0, rfl, hWB⟩ := hQ
      have hJ0 : ∀ k j, ¬ (57 ≤ k ∧ k ≤ 84) → J0 k j = I k j := hWB.2.2.2.2.2.2.2.2
      have hXt0 := hXt.fr (I' := J0) (fun k j a b => hJ0 k j (by omega))
      have hI57 : J0 57 7 = I 143 13 := by rw [hWB.2.1.2.2.2.2]; exact hI17
      refine ex_st 6 (pc' := 38) (ls' := [(5, xi 9), (4, xi (-5)), (3, xi 0), (0, xr 0), (1, xi (↑p)), (2, xi 0)]) (st' := []) rfl ?_
      refine lp_Gcan (L := L) (p := p) hp (w1 := 0) 0 (by decide) J0 (fun _ _ => rfl) (WB57.ww hWB hWW) hXt0 hI57 (WB57.sn hWB hNe hsn) (fun J hJ1 => ?_)
      have hJ : ∀ k j, ¬ ((57 ≤ k ∧ k ≤ 84) ∨ (92 ≤ k ∧ k ≤ 103)) → J k j = I k j := fun k j hk => by rw [hJ1 _ _ hk, hJ0 _ _ (by omega)]
      refine ex_st 1 (pc' := 79) (ls' := [(5, xi (-1)), (4, xi ((sp_cn (sp_Pv kd vv ba ro egg se cd we en cc p sw so st sm m) 10).2)), (3, xi (↑((sp_cn (sp_Pv kd vv ba ro egg se cd we en cc p sw so st sm m) 10).1))), (0, xr 0), (1, xi (↑p)), (2, xi 0)]) (st' := [xi 0]) rfl ?_
      refine ex_st 1 (pc' := 82) (ls' := [(5, xi (-1)), (4, xi ((sp_cn (sp_Pv kd vv ba ro egg se cd we en cc p sw so st sm m) 10).2)), (3, xi (↑((sp_cn (sp_Pv kd vv ba ro egg se cd we en cc p sw so st sm m) 10).1))), (0, xr 0), (1, xi (↑p)), (2, xi 0)]) (st' := []) rfl ?_
      refine ex_st 2 (pc' := 88) (ls' := [(5, xi (-1)), (4, xi ((sp_cn (sp_Pv kd vv ba ro egg se cd we en cc p sw so st sm m) 10).2)), (3, xi (↑((sp_cn (sp_Pv kd vv ba ro egg se cd we en cc p sw so st sm m) 10).1))), (0, xr 0), (1, xi (↑p)), (2, xi 0)]) (st' := [xi (↑((sp_cn (sp_Pv kd vv ba ro egg se cd we en cc p sw so st sm m) 10).1))]) rfl ?_
      refine ex_reti rfl rfl ?_
      refine x_CQ.of (M := xM_m_can) rfl (Nat.le_of_ble_eq_true rfl) ?_
      refine ex_st 2 (pc' := 2) (ls' := [(0, xr 143), (1, xi (↑p)), (2, xi 0)]) (st' := [xi (↑p), xr 143]) rfl ?_
      refine ex_call (ct_m_isOfficial2 (c := I 143 0) (by constructor <;> omega) (hJ _ _ (by omega)) (by omega)) (by decide) rfl ⟨rfl, rfl, rfl⟩ ⟨Nat.le_of_ble_eq_true rfl, rfl, rfl⟩ (Nat.le_of_ble_eq_true rfl) rfl ?_
      refine ex_beq rfl (fun h2 => ?_) (fun h2 => ?_)
      · exfalso; omega
      · refine ex_st 4 (pc' := 12) (ls' := [(0, xr 143), (1, xi (↑p)), (2, xi 0)]) (st' := [xi 1, xi 0, xi 0, xr 143]) rfl ?_
        refine ex_call (ct_m_in (by first | omega | (constructor <;> omega) | assumption) (by first | omega | (constructor <;> omega) | assumption) (by first | omega | (constructor <;> omega) | assumption)) (by decide) rfl ⟨rfl, rfl, rfl⟩ ⟨Nat.le_of_ble_eq_true rfl, rfl, rfl⟩ (Nat.le_of_ble_eq_true rfl) rfl ?_
        refine ex_bne rfl (fun h3 => ?_) (fun h3 => ?_)
        · refine ex_st 3 (pc' := 25) (ls' := [(0, xr 143), (1, xi (↑p)), (2, xi 0)]) (st' := [xi (↑p), xr 145]) rfl ?_
          refine ex_iald (j := p) rfl (by decide) (rfl : xSH[145]? = some _) (by omega) (by omega) (by decide) ?_
          rw [(hJ _ _ (by omega) : J 145 p = I 145 p)]
          refine ex_st 7 (pc' := 38) (ls' := [(6, xi 9), (5, xi (-5)), (4, xi 0), (3, xi (I 145 p)), (0, xr 143), (1, xi (↑p)), (2, xi 0)]) (st' := []) rfl ?_
          have hMJ := hM.fr2 (I' := J) (fun k j a b => hJ k j (by omega))
          have hTJ := hMT.fr2 (I' := J) (fun k j a b => hJ k j (by omega))
          refine lp_Mcan (L := L) (p := p) hp (w1 := 0) (was := I 145 p) 0 (by decide) J (fun _ _ => rfl) hMJ hTJ (hsn.fr (hJ _ _ (by omega)) (fun k j a b => hJ k j (by omega))) (fun K hK1 => ?_)
          have hK : ∀ k j, ¬ ((57 ≤ k ∧ k ≤ 84) ∨ (92 ≤ k ∧ k ≤ 103) ∨ k = 160 ∨ (k = 145 ∧ j = p)) → K k j = I k j := fun k j hk => by rw [hK1 _ _ (by omega), hJ _ _ (by omega)]
          refine ex_st 4 (pc' := 81) (ls' := [(6, xi (-1)), (5, xi ((sp_cn (sp_Pv kd vv ba ro egg se cd we en cc p sw so st sm m) 10).2)), (4, xi (↑((sp_cn (sp_Pv kd vv ba ro egg se cd we en cc p sw so st sm m) 10).1))), (3, xi (I 145 p)), (0, xr 143), (1, xi (↑p)), (2, xi 0)]) (st' := [xi (I 145 p), xi (↑p), xr 145]) rfl ?_
          refine ex_iast (j := p) rfl (by decide) (rfl : xSH[145]? = some _) (by omega) (by omega) (by decide) ?_
          refine ex_st 1 (pc' := 83) (ls' := [(6, xi (-1)), (5, xi ((sp_cn (sp_Pv kd vv ba ro egg se cd we en cc p sw so st sm m) 10).2)), (4, xi (↑((sp_cn (sp_Pv kd vv ba ro egg se cd we en cc p sw so st sm m) 10).1))), (3, xi (I 145 p)), (0, xr 143), (1, xi (↑p)), (2, xi 0)]) (st' := [xi 0]) rfl ?_
          refine ex_st 1 (pc' := 86) (ls' := [(6, xi (-1)), (5, xi ((sp_cn (sp_Pv kd vv ba ro egg se cd we en cc p sw so st sm m) 10).2)), (4, xi (↑((sp_cn (sp_Pv kd vv ba ro egg se cd we en cc p sw so st sm m) 10).1))), (3, xi (I 145 p)), (0, xr 143), (1, xi (↑p)), (2, xi 0)]) (st' := []) rfl ?_
          refine ex_st 2 (pc' := 93) (ls' := [(6, xi (-1)), (5, xi ((sp_cn (sp_Pv kd vv ba ro egg se cd we en cc p sw so st sm m) 10).2)), (4, xi (↑((sp_cn (sp_Pv kd vv ba ro egg se cd we en cc p sw so st sm m) 10).1))), (3, xi (I 145 p)), (0, xr 143), (1, xi (↑p)), (2, xi 0)]) (st' := [xi (↑((sp_cn (sp_Pv kd vv ba ro egg se cd we en cc p sw so st sm m) 10).1))]) rfl ?_
          refine ex_reti rfl rfl ?_
          generalize hMm : (x_up K 145 p (I 145 p)) = K9
          have hK9 : ∀ k j, ¬ x_scr k j → K9 k j = I k j := fun k j hk => by
            unfold x_scr at hk
            by_cases e : (k = 145 ∧ j = p)
            · obtain ⟨rfl, rfl⟩ := e; rw [← hMm]; exact x_up_at2 rfl (by omega)
            · rw [← hMm, x_up_far (by omega)]; exact hK _ _ (by omega)
          exact ⟨x_req (by first | rfl | omega), K9, _, rfl, hR.fr hK9 (fun _ _ => rfl)⟩
        · exfalso; omega
    · exfalso; omega
set_option maxRecDepth 8000 in
set_option maxHeartbeats 2000000 in
theorem op_can_1 {sc : List Int} {I : Nat → Nat → Int} {L : Nat → Nat → Int64} (hR : Rl I L) {p : Nat} (hv : (p : Int) < I 1 1) : x_PQ sc xN_G_can [xr 0, xi (↑p), xi 1] xN_m_can [xr 143, xi (↑p), xi 1] (xSH, I, L) := by
  obtain ⟨⟨hNs, hNo, hNa, hNb, hNr, hNd, hNg, hNe, hNp, hNk⟩, hI, hT, hX, hC, hH, hQ⟩ := id hR
  have hs := hNs
  unfold RNs at hs
  obtain ⟨c, kd, vv, vo, aw, ba, ro, egg, se, hWW, hM⟩ := hR.vw
  have hT2 := hT
  unfold RT at hT2
  obtain ⟨T, nn, cc, cd, we, en, qv, hXt⟩ := RT.tr hT (t := I 143 13) (by omega) (by omega)
  have hX2 := id hXt
  obtain ⟨u1, u2, u3, u4, u5, u6, u7, u8, u9, u10⟩ := hX2
  have hMT := u10 rfl
  obtain ⟨g, hg1, hg, hgs, hgp⟩ := hM.pres
  have hI17 : I 1 7 = I 143 13 := by omega
  have hs64 := sp_mask64 (sp_nz aw) (n := c) (by have := hWW.2.1; omega)
  have hsN : sp_mask (sp_nz aw) c = (((sp_mask (sp_nz aw) c).toNat : Nat) : Int) := by have := (sp_mask_bd (sp_nz aw) c).1; omega
  obtain ⟨hg_1, hg_2, hg_3, hg_4, hg_5, hg_6⟩ := id hNg
  obtain ⟨n, hn⟩ := Int.eq_ofNat_of_zero_le hg_2
  obtain ⟨ag, hag0⟩ : ∃ ag : Nat → Nat, ∀ k, ag k = (I 150 k).toNat := ⟨_, fun _ => rfl⟩
  have hag : ∀ k, k < n → I 150 k = (ag k : Int) ∧ ag k < 5 := fun k hk => by have h1 := hg_5 k (by omega); have h2 := hag0 k; omega
  have hvo : ∀ p, p < c → 0 ≤ vo p ∧ vo p ≤ 9 := fun p hp => (hM.2.2.2.2.2.2.2 p hp).2.2.2.2.2.1
  have hb01 : ∀ p, p < 6 → I (11 + 3 * p) 3 = 0 ∨ I (11 + 3 * p) 3 = 1 := fun p hp => by rw [hNa.1 p hp]; exact x_b01 _
  have hze : 0 ≤ I 5 2 ∧ I 5 2 ≤ 5 := by have h1 := hNe.1; have h2 := hNe.2.1; have h3 := hNe.2.2.1; omega
  have hzp : 0 ≤ I 7 2 ∧ I 7 2 ≤ 10 := by have h1 := hNp.1; have h2 := hNp.2.1; have h3 := hNp.2.2.1; omega
  have hzk : 0 ≤ I 9 2 ∧ I 9 2 ≤ 8 := by have h1 := hNk.1; have h2 := hNk.2.1; have h3 := hNk.2.2.1; omega
  have hc1 := hWW.1
  have hp : p < c := x_natC hc1 hv
  obtain ⟨m, sw, so, st, sm, hsn⟩ := hNe.sn
  refine x_CQ.of (M := xM_G_can) rfl (Nat.le_of_ble_eq_true rfl) ?_
  refine ex_st 2 (pc' := 2) (ls' := [(0, xr 0), (1, xi (↑p)), (2, xi 1)]) (st' := [xi (↑p), xr 0]) rfl ?_
  refine ex_call (ct_G_isOfficial2 (c := I 1 1) (by first | omega | (constructor <;> omega) | assumption | ((repeat rw [x_up_far (by omega)]); first | rfl | omega | (constructor <;> omega))) (by (repeat rw [x_up_far (by omega)]); try rfl) (by first | omega | (constructor <;> omega) | assumption | ((repeat rw [x_up_far (by omega)]); first | rfl | omega | (constructor <;> omega)))) (by decide) rfl ⟨rfl, rfl, rfl⟩ ⟨Nat.le_of_ble_eq_true rfl, rfl, rfl⟩ (Nat.le_of_ble_eq_true rfl) rfl ?_
  refine ex_beq rfl (fun h0 => ?_) (fun h0 => ?_)
  · exfalso; omega
  · refine ex_st 1 (pc' := 9) (ls' := [(0, xr 0), (1, xi (↑p)), (2, xi 1)]) (st' := [xi 1]) rfl ?_
    refine ex_call (ct_G_isZeroOrOne (by first | omega | (constructor <;> omega) | assumption)) (by decide) rfl ⟨rfl, rfl, rfl⟩ ⟨Nat.le_of_ble_eq_true rfl, rfl, rfl⟩ (Nat.le_of_ble_eq_true rfl) rfl ?_
    refine ex_bne rfl (fun h1 => ?_) (fun h1 => ?_)
    · refine ex_st 4 (pc' := 25) (ls' := [(0, xr 0), (1, xi (↑p)), (2, xi 1)]) (st' := [xr 1, xr 57]) rfl ?_
      refine ex_callQ (ct_W_become57_1 (L := L) hb01 hze hzp hzk) (by decide) rfl ⟨rfl, rfl, rfl⟩ ⟨Nat.le_of_ble_eq_true rfl, rfl, rfl⟩ (Nat.le_of_ble_eq_true rfl) rfl (fun ra m2 hQ => ?_)
      obtain ⟨rfl, J0, rfl, hWB⟩ := hQ
      have hJ0 : ∀ k j, ¬ (57 ≤ k ∧ k ≤ 84) → J0 k j = I k j := hWB.2.2.2.2.2.2.2.2
      have hXt0 := hXt.fr (I' := J0) (fun k j a b => hJ0 k j (by omega))
      have hI57 : J0 57 7 = I 143 13 := by rw [hWB.2.1.2.2.2.2]; exact hI17
      refine ex_st 6 (pc' := 38) (ls' := [(5, xi 9), (4, xi (-5)), (3, xi 0), (0, xr 0), (1, xi (↑p)), (2, xi 1)]) (st' := []) rfl ?_
      refine lp_Gcan (L := L) (p := p) hp (w1 := 1) 0 (by decide) J0 (fun _ _ => rfl) (WB57.ww hWB hWW) hXt0 hI57 (WB57.sn hWB hNe hsn) (fun J hJ1 => ?_)
      have hJ : ∀ k j, ¬ ((57 ≤ k ∧ k ≤ 84) ∨ (92 ≤ k ∧ k ≤ 103)) → J k j = I k j := fun k j hk => by rw [hJ1 _ _ hk, hJ0 _ _ (by omega)]
      refine ex_st 1 (pc' := 79) (ls' := [(5, xi (-1)), (4, xi ((sp_cn (sp_Pv kd vv ba ro egg se cd we en cc p sw so st sm m) 10).2)), (3, xi (↑((sp_cn (sp_Pv kd vv ba ro egg se cd we en cc p sw so st sm m) 10).1))), (0, xr 0), (1, xi (↑p)), (2, xi 1)]) (st' := [xi 1]) rfl ?_
      refine ex_st 1 (pc' := 86) (ls' := [(5, xi (-1)), (4, xi ((sp_cn (sp_Pv kd vv ba ro egg se cd we en cc p sw so st sm m) 10).2)), (3, xi (↑((sp_cn (sp_Pv kd vv ba ro egg se cd we en cc p sw so st sm m) 10).1))), (0, xr 0), (1, xi (↑p)), (2, xi 1)]) (st' := []) rfl ?_
      refine ex_st 1 (pc' := 88) (ls' := [(5, xi (-1)), (4, xi ((sp_cn (sp_Pv kd vv ba ro egg se cd we en cc p sw so st sm m) 10).2)), (3, xi (↑((sp_cn (sp_Pv kd vv ba ro egg se cd we en cc p sw so st sm m) 10).1))), (0, xr 0), (1, xi (↑p)), (2, xi 1)]) (st' := [xi ((sp_cn (sp_Pv kd vv ba ro egg se cd we en cc p sw so st sm m) 10).2)]) rfl ?_
      refine ex_reti rfl rfl ?_
      refine x_CQ.of (M := xM_m_can) rfl (Nat.le_of_ble_eq_true rfl) ?_
      refine ex_st 2 (pc' := 2) (ls' := [(0, xr 143), (1, xi (↑p)), (2, xi 1)]) (st' := [xi (↑p), xr 143]) rfl ?_
      refine ex_call (ct_m_isOfficial2 (c := I 143 0) (by constructor <;> omega) (hJ _ _ (by omega)) (by omega)) (by decide) rfl ⟨rfl, rfl, rfl⟩ ⟨Nat.le_of_ble_eq_true rfl, rfl, rfl⟩ (Nat.le_of_ble_eq_true rfl) rfl ?_
      refine ex_beq rfl (fun h2 => ?_) (fun h2 => ?_)
      · exfalso; omega
      · refine ex_st 4 (pc' := 12) (ls' := [(0, xr 143), (1, xi (↑p)), (2, xi 1)]) (st' := [xi 1, xi 0, xi 1, xr 143]) rfl ?_
        refine ex_call (ct_m_in (by first | omega | (constructor <;> omega) | assumption) (by first | omega | (constructor <;> omega) | assumption) (by first | omega | (constructor <;> omega) | assumption)) (by decide) rfl ⟨rfl, rfl, rfl⟩ ⟨Nat.le_of_ble_eq_true rfl, rfl, rfl⟩ (Nat.le_of_ble_eq_true rfl) rfl ?_
        refine ex_bne rfl (fun h3 => ?_) (fun h3 => ?_)
        · refine ex_st 3 (pc' := 25) (ls' := [(0, xr 143), (1, xi (↑p)), (2, xi 1)]) (st' := [xi (↑p), xr 145]) rfl ?_
          refine ex_iald (j := p) rfl (by decide) (rfl : xSH[145]? = some _) (by omega) (by omega) (by decide) ?_
          rw [(hJ _ _ (by omega) : J 145 p = I 145 p)]
          refine ex_st 7 (pc' := 38) (ls' := [(6, xi 9), (5, xi (-5)), (4, xi 0), (3, xi (I 145 p)), (0, xr 143), (1, xi (↑p)), (2, xi 1)]) (st' := []) rfl ?_
          have hMJ := hM.fr2 (I' := J) (fun k j a b => hJ k j (by omega))
          have hTJ := hMT.fr2 (I' := J) (fun k j a b => hJ k j (by omega))
          refine lp_Mcan (L := L) (p := p) hp (w1 := 1) (was := I 145 p) 0 (by decide) J (fun _ _ => rfl) hMJ hTJ (hsn.fr (hJ _ _ (by omega)) (fun k j a b => hJ k j (by omega))) (fun K hK1 => ?_)
          have hK : ∀ k j, ¬ ((57 ≤ k ∧ k ≤ 84) ∨ (92 ≤ k ∧ k ≤ 103) ∨ k = 160 ∨ (k = 145 ∧ j = p)) → K k j = I k j := fun k j hk => by rw [hK1 _ _ (by omega), hJ _ _ (by omega)]
          refine ex_st 4 (pc' := 81) (ls' := [(6, xi (-1)), (5, xi ((sp_cn (sp_Pv kd vv ba ro egg se cd we en cc p sw so st sm m) 10).2)), (4, xi (↑((sp_cn (sp_Pv kd vv ba ro egg se cd we en cc p sw so st sm m) 10).1))), (3, xi (I 145 p)), (0, xr 143), (1, xi (↑p)), (2, xi 1)]) (st' := [xi (I 145 p), xi (↑p), xr 145]) rfl ?_
          refine ex_iast (j := p) rfl (by decide) (rfl : xSH[145]? = some _) (by omega) (by omega) (by decide) ?_
          refine ex_st 1 (pc' := 83) (ls' := [(6, xi (-1)), (5, xi ((sp_cn (sp_Pv kd vv ba ro egg se cd we en cc p sw so st sm m) 10).2)), (4, xi (↑((sp_cn (sp_Pv kd vv ba ro egg se cd we en cc p sw so st sm m) 10).1))), (3, xi (I 145 p)), (0, xr 143), (1, xi (↑p)), (2, xi 1)]) (st' := [xi 1]) rfl ?_
          refine ex_st 1 (pc' := 91) (ls' := [(6, xi (-1)), (5, xi ((sp_cn (sp_Pv kd vv ba ro egg se cd we en cc p sw so st sm m) 10).2)), (4, xi (↑((sp_cn (sp_Pv kd vv ba ro egg se cd we en cc p sw so st sm m) 10).1))), (3, xi (I 145 p)), (0, xr 143), (1, xi (↑p)), (2, xi 1)]) (st' := []) rfl ?_
          refine ex_st 1 (pc' := 93) (ls' := [(6, xi (-1)), (5, xi ((sp_cn (sp_Pv kd vv ba ro egg se cd we en cc p sw so st sm m) 10).2)), (4, xi (↑((sp_cn (sp_Pv kd vv ba ro egg se cd we en cc p sw so st sm m) 10).1))), (3, xi (I 145 p)), (0, xr 143), (1, xi (↑p)), (2, xi 1)]) (st' := [xi ((sp_cn (sp_Pv kd vv ba ro egg se cd we en cc p sw so st sm m) 10).2)]) rfl ?_
          refine ex_reti rfl rfl ?_
          generalize hMm : (x_up K 145 p (I 145 p)) = K9
          have hK9 : ∀ k j, ¬ x_scr k j → K9 k j = I k j := fun k j hk => by
            unfold x_scr at hk
            by_cases e : (k = 145 ∧ j = p)
            · obtain ⟨rfl, rfl⟩ := e; rw [← hMm]; exact x_up_at2 rfl (by omega)
            · rw [← hMm, x_up_far (by omega)]; exact hK _ _ (by omega)
          exact ⟨x_req (by first | rfl | omega), K9, _, rfl, hR.fr hK9 (fun _ _ => rfl)⟩
        · exfalso; omega
    · exfalso; omega
set_option maxRecDepth 8000 in
set_option maxHeartbeats 1000000 in
theorem lp_Gbases {sc : List Int} {L : Nat → Nat → Int64} {c : Nat} {kd : Nat → Nat} {vv vo aw : Nat → Int} {ba ro : Nat → Nat → Int} {egg : Int} {se : Nat} {t : Int} {T nn cc : Nat} {cd we : Nat → Int} {en : Nat → Nat} {qv : Int} {p : Nat} (hp : p < c) {x : Nat} (hx : x < 5) {m : Nat} {sw so st sm : Nat → Nat} {Q : Option xPV → xMem → Prop} {w1 : Int} (j : Nat) (hj : j ≤ 10) (I : Nat → Nat → Int) {bx : Nat → Nat → Int} (hvx : ∀ q y, ¬ (q = p ∧ y = x) → bx q y = ba q y) (hW : WW I 57 c kd vv vo aw bx ro egg se) (hX : TRx I t T nn cc cd we en qv) (ht : I 57 7 = t) (hS : SNT I m sw so st sm) (kk : ∀ I' : Nat → Nat → Int, (∀ k j, ¬ ((57 ≤ k ∧ k ≤ 84) ∨ (92 ≤ k ∧ k ≤ 103)) → I' k j = I k j) → x_Ex sc 29 xM_G_bases 88 [(6, xi (-1)), (5, xi ((sp_cn (sp_Pb kd vv ba ro egg se cd we en cc p x sw so st sm m) 10).2)), (4, xi (↑((sp_cn (sp_Pb kd vv ba ro egg se cd we en cc p x sw so st sm m) 10).1))), (0, xr 0), (1, xi (↑p)), (2, xi (↑x)), (3, xi w1)] [] (xSH, I', L) Q) : x_Ex sc 29 xM_G_bases 46 [(6, xi (((9 : Int) - (↑j : Int)))), (5, xi ((sp_cn (sp_Pb kd vv ba ro egg se cd we en cc p x sw so st sm m) j).2)), (4, xi (↑((sp_cn (sp_Pb kd vv ba ro egg se cd we en cc p x sw so st sm m) j).1))), (0, xr 0), (1, xi (↑p)), (2, xi (↑x)), (3, xi w1)] [] (xSH, I, L) Q := by
  have hc6 := hW.2.1
  have hcn := sp_cn_bd (sp_Pb kd vv ba ro egg se cd we en cc p x sw so st sm m) j
  refine ex_st 1 (pc' := 48) (ls' := [(6, xi (((9 : Int) - (↑j : Int)))), (5, xi ((sp_cn (sp_Pb kd vv ba ro egg se cd we en cc p x sw so st sm m) j).2)), (4, xi (↑((sp_cn (sp_Pb kd vv ba ro egg se cd we en cc p x sw so st sm m) j).1))), (0, xr 0), (1, xi (↑p)), (2, xi (↑x)), (3, xi w1)]) (st' := [xi (((9 : Int) - (↑j : Int)))]) rfl ?_
  refine ex_if rfl (by first | omega | (constructor <;> omega) | assumption | exact x_bR _) (fun (h0 : (((9 : Int) - (↑j : Int))) < 0) => ?_) (fun (h0 : ¬ (((9 : Int) - (↑j : Int))) < 0) => ?_)
  · obtain rfl : j = 10 := by omega
    exact kk I (fun _ _ _ => rfl)
  · obtain ⟨v, hv⟩ : ∃ v : Nat, v = 9 - j := ⟨_, rfl⟩
    rw [show (9 - (↑j : Int)) = ((v : Nat) : Int) by omega]
    refine ex_st 4 (pc' := 59) (ls' := [(6, xi (↑v)), (5, xi ((sp_cn (sp_Pb kd vv ba ro egg se cd we en cc p x sw so st sm m) j).2)), (4, xi (↑((sp_cn (sp_Pb kd vv ba ro egg se cd we en cc p x sw so st sm m) j).1))), (0, xr 0), (1, xi (↑p)), (2, xi (↑x)), (3, xi w1)]) (st' := [xi (↑p), xr 58]) rfl ?_
    refine ex_aald (q := 67 + 3 * p) (j := p) rfl (by decide) (rfl : xSH[58]? = some _) (by decide) (by omega) (by omega) (by decide) (x_aa58 p (by omega)) (by omega) ?_
    refine ex_gfr rfl (by omega) (x_so57 p (by omega)).1 (by decide) (by decide) rfl ?_
    refine ex_st 2 (pc' := 66) (ls' := [(6, xi (↑v)), (5, xi ((sp_cn (sp_Pb kd vv ba ro egg se cd we en cc p x sw so st sm m) j).2)), (4, xi (↑((sp_cn (sp_Pb kd vv ba ro egg se cd we en cc p x sw so st sm m) j).1))), (0, xr 0), (1, xi (↑p)), (2, xi (↑x)), (3, xi w1)]) (st' := [xi (↑v), xi (↑x), xr (67 + 3 * p + 1)]) rfl ?_
    refine ex_iast (j := x) rfl (by omega) (x_so57 p (by omega)).2.1 (by omega) (by omega) (by decide) ?_
    refine ex_st 2 (pc' := 69) (ls' := [(6, xi (↑v)), (5, xi ((sp_cn (sp_Pb kd vv ba ro egg se cd we en cc p x sw so st sm m) j).2)), (4, xi (↑((sp_cn (sp_Pb kd vv ba ro egg se cd we en cc p x sw so st sm m) j).1))), (0, xr 0), (1, xi (↑p)), (2, xi (↑x)), (3, xi w1)]) (st' := [xi (↑p), xr 0]) rfl ?_
    generalize hMm : (x_up I (67 + 3 * p + 1) x (↑v)) = K
    have hKf : ∀ k j, ¬ (k = 67 + 3 * p + 1 ∧ j = x) → K k j = I k j := fun k j hk => by rw [← hMm]; exact x_up_far hk
    have hKv : K (67 + 3 * p + 1) x = (v : Int) := by rw [← hMm]; exact x_up_at _ _ _ _
    clear hMm
    have g7 := hW.2.2.2.2.2.2
    have tV : ∀ q, q < c → K (57 + 10 + 3 * q) 1 = vv q ∧ -1000 ≤ vv q ∧ vv q ≤ 1000 := fun q hq => by rw [hKf _ _ (by omega)]; exact ⟨(g7 q hq).1.2.2.1, (g7 q hq).2.2.2.2.2.2.1⟩
    have tB : ∀ q, q < c → ∀ y, y < 5 → K (57 + 10 + 3 * q + 1) y = (fun q y => if q = p ∧ y = x then (v : Int) else ba q y) q y ∧ 0 ≤ (fun q y => if q = p ∧ y = x then (v : Int) else ba q y) q y ∧ (fun q y => if q = p ∧ y = x then (v : Int) else ba q y) q y ≤ 9 := by
      intro q hq y hy
      by_cases e : q = p ∧ y = x
      · obtain ⟨rfl, rfl⟩ := e; dsimp only; rw [if_pos ⟨rfl, rfl⟩]; exact ⟨hKv, by omega, by omega⟩
      · dsimp only; rw [if_neg e, hKf _ _ (by omega), ← hvx q y e]; exact (g7 q hq).2.2.2.2.2.1 y hy
    have hWK : WW K 57 c kd vv vo aw (fun q y => if q = p ∧ y = x then (v : Int) else ba q y) ro egg se := hW.gen (hKf _ _ (by omega)) ⟨by rw [hKf _ _ (by omega)]; exact hW.2.2.1, hW.2.2.2.1⟩ ⟨by rw [hKf _ _ (by omega)]; exact hW.2.2.2.2.1, hW.2.2.2.2.2.1⟩ (fun q hq => ⟨hKf _ _ (by omega), hKf _ _ (by omega), fun y hy => hKf _ _ (by omega)⟩) tV (fun q hq => by rw [hKf _ _ (by omega)]; exact ⟨(g7 q hq).2.2.2.1, (g7 q hq).2.2.2.2.1⟩) tB
    have hct := ct_G_isAsSeen (sc := sc) (L := L) hWK (hX.fr (I' := K) (fun k j a b => hKf k j (by omega))) (by rw [hKf _ _ (by omega)]; exact ht) hp (hS.fr (fun k j a b => hKf k j (by omega)))
    change x_CQ sc 6 xN_G_isAsSeen [xr 0, xi (↑p)] (xSH, K, L) (fun r m' => r = some (xi (x_b ((sp_Pb kd vv ba ro egg se cd we en cc p x sw so st sm m) v = true))) ∧ ∃ J, m' = (xSH, J, L) ∧ ∀ k j, k < 92 ∨ 102 < k → J k j = K k j) at hct
    refine ex_callQ hct (by decide) rfl ⟨rfl, rfl, rfl⟩ ⟨Nat.le_of_ble_eq_true rfl, rfl, rfl⟩ (Nat.le_of_ble_eq_true rfl) rfl (fun ra m2 hQ => ?_)
    obtain ⟨rfl, J, rfl, hJ⟩ := hQ
    refine ex_beq rfl (fun h1 => ?_) (fun h1 => ?_)
    · refine ex_st 2 (pc' := 46) (ls' := [(6, xi ((↑v) + (-1))), (5, xi ((sp_cn (sp_Pb kd vv ba ro egg se cd we en cc p x sw so st sm m) j).2)), (4, xi (↑((sp_cn (sp_Pb kd vv ba ro egg se cd we en cc p x sw so st sm m) j).1))), (0, xr 0), (1, xi (↑p)), (2, xi (↑x)), (3, xi w1)]) (st' := []) rfl ?_
      have e9 : sp_cn (sp_Pb kd vv ba ro egg se cd we en cc p x sw so st sm m) (j + 1) = sp_cn (sp_Pb kd vv ba ro egg se cd we en cc p x sw so st sm m) j := by show (if _ then _ else _) = _; rw [← hv]; rw [if_neg (by assumption)]
      rw [show ((↑v : Int) + (-1)) = 9 - ((j + 1 : Nat) : Int) by omega]
      have hJI : ∀ k j, ¬ ((57 ≤ k ∧ k ≤ 84) ∨ (92 ≤ k ∧ k ≤ 103)) → J k j = I k j := fun k j hk => by rw [hJ _ _ (by omega), hKf _ _ (by omega)]
      have hWJ := hWK.set (I' := J) (egg' := egg) (se' := se) (fun k j a b => hJ k j (by omega)) (hJ _ _ (by omega)) ⟨by rw [hJ _ _ (by omega)]; exact hWK.2.2.1, hWK.2.2.2.1⟩ ⟨by rw [hJ _ _ (by omega)]; exact hWK.2.2.2.2.1, hWK.2.2.2.2.2.1⟩
      have h9 := lp_Gbases (sc := sc) (L := L) hp hx (w1 := w1) (Q := Q) (j + 1) (by omega) J (fun q y hq => if_neg hq) hWJ (hX.fr (fun k j a b => hJI k j (by omega))) (by rw [hJ _ _ (by omega), hKf _ _ (by omega)]; exact ht) (hS.fr (fun k j a b => by rw [hJ _ _ (by omega), hKf _ _ (by omega)])) (fun I' g => kk I' (fun k j hk => by rw [g k j hk, hJI k j hk]))
      rw [e9] at h9
      exact ex_pm _ (fun i => by rcases i with _ | _ | _ | _ | _ | _ | _ | _ | _ | i <;> first | (right; rfl) | (left; rfl)) h9
    · refine ex_st 5 (pc' := 46) (ls' := [(6, xi ((↑v) + (-1))), (5, xi (↑v)), (4, xi ((↑((sp_cn (sp_Pb kd vv ba ro egg se cd we en cc p x sw so st sm m) j).1)) + 1)), (0, xr 0), (1, xi (↑p)), (2, xi (↑x)), (3, xi w1)]) (st' := []) rfl ?_
      have e9 : sp_cn (sp_Pb kd vv ba ro egg se cd we en cc p x sw so st sm m) (j + 1) = ((sp_cn (sp_Pb kd vv ba ro egg se cd we en cc p x sw so st sm m) j).1 + 1, (v : Int)) := by show (if _ then _ else _) = _; rw [← hv]; rw [if_pos (by assumption)]
      rw [show ((↑v : Int) + (-1)) = 9 - ((j + 1 : Nat) : Int) by omega]
      have hJI : ∀ k j, ¬ ((57 ≤ k ∧ k ≤ 84) ∨ (92 ≤ k ∧ k ≤ 103)) → J k j = I k j := fun k j hk => by rw [hJ _ _ (by omega), hKf _ _ (by omega)]
      have hWJ := hWK.set (I' := J) (egg' := egg) (se' := se) (fun k j a b => hJ k j (by omega)) (hJ _ _ (by omega)) ⟨by rw [hJ _ _ (by omega)]; exact hWK.2.2.1, hWK.2.2.2.1⟩ ⟨by rw [hJ _ _ (by omega)]; exact hWK.2.2.2.2.1, hWK.2.2.2.2.2.1⟩
      have h9 := lp_Gbases (sc := sc) (L := L) hp hx (w1 := w1) (Q := Q) (j + 1) (by omega) J (fun q y hq => if_neg hq) hWJ (hX.fr (fun k j a b => hJI k j (by omega))) (by rw [hJ _ _ (by omega), hKf _ _ (by omega)]; exact ht) (hS.fr (fun k j a b => by rw [hJ _ _ (by omega), hKf _ _ (by omega)])) (fun I' g => kk I' (fun k j hk => by rw [g k j hk, hJI k j hk]))
      rw [e9] at h9
      exact ex_pm _ (fun i => by rcases i with _ | _ | _ | _ | _ | _ | _ | _ | _ | i <;> first | (right; rfl) | (left; rfl)) h9
termination_by 10 - j
decreasing_by all_goals (omega)
set_option maxRecDepth 8000 in
set_option maxHeartbeats 1000000 in
theorem lp_Mbases {sc : List Int} {L : Nat → Nat → Int64} {c : Nat} {kd : Nat → Nat} {vv vo aw : Nat → Int} {ba ro : Nat → Nat → Int} {egg : Int} {se : Nat} {cc : Nat} {cd we : Nat → Int} {en : Nat → Nat} {qv : Int} {p : Nat} (hp : p < c) {x : Nat} (hx : x < 5) {m : Nat} {sw so st sm : Nat → Nat} {Q : Option xPV → xMem → Prop} {w1 was : Int} (j : Nat) (hj : j ≤ 10) (I : Nat → Nat → Int) {bx : Nat → Nat → Int} (hvx : ∀ q y, ¬ (q = p ∧ y = x) → bx q y = ba q y) (hM : MW I c kd vv vo aw bx ro egg se) (hT : MT I cc cd we en qv) (hS : SNM I m sw so st sm) (kk : ∀ I' : Nat → Nat → Int, (∀ k j, ¬ ((k = 147 ∧ j = 5 * p + x) ∨ k = 160) → I' k j = I k j) → x_Ex sc 29 xM_m_bases 92 [(7, xi (-1)), (6, xi ((sp_cn (sp_Pb kd vv ba ro egg se cd we en cc p x sw so st sm m) 10).2)), (5, xi (↑((sp_cn (sp_Pb kd vv ba ro egg se cd we en cc p x sw so st sm m) 10).1))), (4, xi was), (0, xr 143), (1, xi (↑p)), (2, xi (↑x)), (3, xi w1)] [] (xSH, I', L) Q) : x_Ex sc 29 xM_m_bases 51 [(7, xi (((9 : Int) - (↑j : Int)))), (6, xi ((sp_cn (sp_Pb kd vv ba ro egg se cd we en cc p x sw so st sm m) j).2)), (5, xi (↑((sp_cn (sp_Pb kd vv ba ro egg se cd we en cc p x sw so st sm m) j).1))), (4, xi was), (0, xr 143), (1, xi (↑p)), (2, xi (↑x)), (3, xi w1)] [] (xSH, I, L) Q := by
  have hc6 := hM.2.1
  have hcn := sp_cn_bd (sp_Pb kd vv ba ro egg se cd we en cc p x sw so st sm m) j
  refine ex_st 1 (pc' := 53) (ls' := [(7, xi (((9 : Int) - (↑j : Int)))), (6, xi ((sp_cn (sp_Pb kd vv ba ro egg se cd we en cc p x sw so st sm m) j).2)), (5, xi (↑((sp_cn (sp_Pb kd vv ba ro egg se cd we en cc p x sw so st sm m) j).1))), (4, xi was), (0, xr 143), (1, xi (↑p)), (2, xi (↑x)), (3, xi w1)]) (st' := [xi (((9 : Int) - (↑j : Int)))]) rfl ?_
  refine ex_if rfl (by first | omega | (constructor <;> omega) | assumption | exact x_bR _) (fun (h0 : (((9 : Int) - (↑j : Int))) < 0) => ?_) (fun (h0 : ¬ (((9 : Int) - (↑j : Int))) < 0) => ?_)
  · obtain rfl : j = 10 := by omega
    exact kk I (fun _ _ _ => rfl)
  · obtain ⟨v, hv⟩ : ∃ v : Nat, v = 9 - j := ⟨_, rfl⟩
    rw [show (9 - (↑j : Int)) = ((v : Nat) : Int) by omega]
    refine ex_st 8 (pc' := 67) (ls' := [(7, xi (↑v)), (6, xi ((sp_cn (sp_Pb kd vv ba ro egg se cd we en cc p x sw so st sm m) j).2)), (5, xi (↑((sp_cn (sp_Pb kd vv ba ro egg se cd we en cc p x sw so st sm m) j).1))), (4, xi was), (0, xr 143), (1, xi (↑p)), (2, xi (↑x)), (3, xi w1)]) (st' := [xi (↑v), xi ((5 * (↑p)) + (↑x)), xr 147]) rfl ?_
    refine ex_iast (j := ((5 * (p)) + (x))) rfl (by decide) (rfl : xSH[147]? = some _) (by omega) (by omega) (by decide) ?_
    refine ex_st 2 (pc' := 70) (ls' := [(7, xi (↑v)), (6, xi ((sp_cn (sp_Pb kd vv ba ro egg se cd we en cc p x sw so st sm m) j).2)), (5, xi (↑((sp_cn (sp_Pb kd vv ba ro egg se cd we en cc p x sw so st sm m) j).1))), (4, xi was), (0, xr 143), (1, xi (↑p)), (2, xi (↑x)), (3, xi w1)]) (st' := [xi (↑p), xr 143]) rfl ?_
    generalize hMm : (x_up I 147 ((5 * (p)) + (x)) (↑v)) = K
    have hKf : ∀ k j, ¬ (k = 147 ∧ j = 5 * p + x) → K k j = I k j := fun k j hk => by rw [← hMm]; exact x_up_far (by omega)
    have hKv : K 147 (5 * p + x) = (v : Int) := by rw [← hMm]; exact x_up_at2 rfl (by omega)
    clear hMm
    have g8 := hM.2.2.2.2.2.2.2
    have tV : ∀ q, q < c → K 145 q = vv q ∧ -1000 ≤ vv q ∧ vv q ≤ 1000 := fun q hq => by rw [hKf _ _ (by omega)]; exact ⟨(g8 q hq).2.2.1, (g8 q hq).2.2.2.1⟩
    have tB : ∀ q, q < c → ∀ y, y < 5 → K 147 (5 * q + y) = (fun q y => if q = p ∧ y = x then (v : Int) else ba q y) q y ∧ 0 ≤ (fun q y => if q = p ∧ y = x then (v : Int) else ba q y) q y ∧ (fun q y => if q = p ∧ y = x then (v : Int) else ba q y) q y ≤ 9 := by
      intro q hq y hy
      by_cases e : q = p ∧ y = x
      · obtain ⟨rfl, rfl⟩ := e; dsimp only; rw [if_pos ⟨rfl, rfl⟩]; exact ⟨hKv, by omega, by omega⟩
      · dsimp only; rw [if_neg e, hKf _ _ (by omega), ← hvx q y e]; exact (g8 q hq).2.2.2.2.2.2.1 y hy
    have hMK : MW K c kd vv vo aw (fun q y => if q = p ∧ y = x then (v : Int) else ba q y) ro egg se := hM.gen (hKf _ _ (by omega)) ⟨by rw [hKf _ _ (by omega)]; exact hM.2.2.1, hM.2.2.2.1⟩ ⟨by rw [hKf _ _ (by omega)]; exact hM.2.2.2.2.1, hM.2.2.2.2.2.1⟩ (by rw [hKf _ _ (by omega)]; exact hM.2.2.2.2.2.2.1) (fun q hq => ⟨hKf _ _ (by omega), hKf _ _ (by omega), fun y hy => hKf _ _ (by omega)⟩) tV tB
    have hct := ct_m_isSeen (sc := sc) (L := L) hMK (hT.fr3 (I' := K) (hKf _ _ (by omega)) (fun k j a b => hKf k j (by omega))) hp (hS.fr (hKf _ _ (by omega)) (fun k j a b => hKf k j (by omega)))
    change x_CQ sc 27 xN_m_isSeen [xr 143, xi (↑p)] (xSH, K, L) (fun r m' => r = some (xi (x_b ((sp_Pb kd vv ba ro egg se cd we en cc p x sw so st sm m) v = true))) ∧ ∃ I', m' = (xSH, I', L) ∧ ∀ k j, k ≠ 160 → I' k j = K k j) at hct
    refine ex_callQ hct (by decide) rfl ⟨rfl, rfl, rfl⟩ ⟨Nat.le_of_ble_eq_true rfl, rfl, rfl⟩ (Nat.le_of_ble_eq_true rfl) rfl (fun ra m2 hQ => ?_)
    obtain ⟨rfl, J, rfl, hJ⟩ := hQ
    refine ex_bne rfl (fun h1 => ?_) (fun h1 => ?_)
    · refine ex_st 5 (pc' := 51) (ls' := [(7, xi ((↑v) + (-1))), (6, xi (↑v)), (5, xi ((↑((sp_cn (sp_Pb kd vv ba ro egg se cd we en cc p x sw so st sm m) j).1)) + 1)), (4, xi was), (0, xr 143), (1, xi (↑p)), (2, xi (↑x)), (3, xi w1)]) (st' := []) rfl ?_
      have e9 : sp_cn (sp_Pb kd vv ba ro egg se cd we en cc p x sw so st sm m) (j + 1) = ((sp_cn (sp_Pb kd vv ba ro egg se cd we en cc p x sw so st sm m) j).1 + 1, (v : Int)) := by show (if _ then _ else _) = _; rw [← hv]; rw [if_pos (by assumption)]
      rw [show ((↑v : Int) + (-1)) = 9 - ((j + 1 : Nat) : Int) by omega]
      have hJI : ∀ k j, ¬ ((k = 147 ∧ j = 5 * p + x) ∨ k = 160) → J k j = I k j := fun k j hk => by rw [hJ _ _ (by omega), hKf _ _ (by omega)]
      have hMJ := hMK.fr (I' := J) (fun k j hk => hJ k j (by unfold x_ms at hk; omega))
      have h9 := lp_Mbases (sc := sc) (L := L) hp hx (w1 := w1) (was := was) (Q := Q) (j + 1) (by omega) J (fun q y hq => if_neg hq) hMJ (hT.fr3 (hJI _ _ (by omega)) (fun k j a b => hJI k j (by omega))) (hS.fr (hJI _ _ (by omega)) (fun k j a b => hJI k j (by omega))) (fun I' g => kk I' (fun k j hk => by rw [g k j hk, hJI k j hk]))
      rw [e9] at h9
      exact ex_pm _ (fun i => by rcases i with _ | _ | _ | _ | _ | _ | _ | _ | _ | i <;> first | (right; rfl) | (left; rfl)) h9
    · refine ex_st 3 (pc' := 51) (ls' := [(7, xi ((↑v) + (-1))), (6, xi ((sp_cn (sp_Pb kd vv ba ro egg se cd we en cc p x sw so st sm m) j).2)), (5, xi (↑((sp_cn (sp_Pb kd vv ba ro egg se cd we en cc p x sw so st sm m) j).1))), (4, xi was), (0, xr 143), (1, xi (↑p)), (2, xi (↑x)), (3, xi w1)]) (st' := []) rfl ?_
      have e9 : sp_cn (sp_Pb kd vv ba ro egg se cd we en cc p x sw so st sm m) (j + 1) = sp_cn (sp_Pb kd vv ba ro egg se cd we en cc p x sw so st sm m) j := by show (if _ then _ else _) = _; rw [← hv]; rw [if_neg (by assumption)]
      rw [show ((↑v : Int) + (-1)) = 9 - ((j + 1 : Nat) : Int) by omega]
      have hJI : ∀ k j, ¬ ((k = 147 ∧ j = 5 * p + x) ∨ k = 160) → J k j = I k j := fun k j hk => by rw [hJ _ _ (by omega), hKf _ _ (by omega)]
      have hMJ := hMK.fr (I' := J) (fun k j hk => hJ k j (by unfold x_ms at hk; omega))
      have h9 := lp_Mbases (sc := sc) (L := L) hp hx (w1 := w1) (was := was) (Q := Q) (j + 1) (by omega) J (fun q y hq => if_neg hq) hMJ (hT.fr3 (hJI _ _ (by omega)) (fun k j a b => hJI k j (by omega))) (hS.fr (hJI _ _ (by omega)) (fun k j a b => hJI k j (by omega))) (fun I' g => kk I' (fun k j hk => by rw [g k j hk, hJI k j hk]))
      rw [e9] at h9
      exact ex_pm _ (fun i => by rcases i with _ | _ | _ | _ | _ | _ | _ | _ | _ | i <;> first | (right; rfl) | (left; rfl)) h9
termination_by 10 - j
decreasing_by all_goals (omega)
set_option maxRecDepth 8000 in
set_option maxHeartbeats 2000000 in
theorem op_bases_0 {sc : List Int} {I : Nat → Nat → Int} {L : Nat → Nat → Int64} (hR : Rl I L) {p : Nat} (hv : (p : Int) < I 1 1) {x : Nat} (hx : x < 5) : x_PQ sc xN_G_bases [xr 0, xi (↑p), xi (↑x), xi 0] xN_m_bases [xr 143, xi (↑p), xi (↑x), xi 0] (xSH, I, L) := by
  obtain ⟨⟨hNs, hNo, hNa, hNb, hNr, hNd, hNg, hNe, hNp, hNk⟩, hI, hT, hX, hC, hH, hQ⟩ := id hR
  have hs := hNs
  unfold RNs at hs
  obtain ⟨c, kd, vv, vo, aw, ba, ro, egg, se, hWW, hM⟩ := hR.vw
  have hT2 := hT
  unfold RT at hT2
  obtain ⟨T, nn, cc, cd, we, en, qv, hXt⟩ := RT.tr hT (t := I 143 13) (by omega) (by omega)
  have hX2 := id hXt
  obtain ⟨u1, u2, u3, u4, u5, u6, u7, u8, u9, u10⟩ := hX2
  have hMT := u10 rfl
  obtain ⟨g, hg1, hg, hgs, hgp⟩ := hM.pres
  have hI17 : I 1 7 = I 143 13 := by omega
  have hs64 := sp_mask64 (sp_nz aw) (n := c) (by have := hWW.2.1; omega)
  have hsN : sp_mask (sp_nz aw) c = (((sp_mask (sp_nz aw) c).toNat : Nat) : Int) := by have := (sp_mask_bd (sp_nz aw) c).1; omega
  obtain ⟨hg_1, hg_2, hg_3, hg_4, hg_5, hg_6⟩ := id hNg
  obtain ⟨n, hn⟩ := Int.eq_ofNat_of_zero_le hg_2
  obtain ⟨ag, hag0⟩ : ∃ ag : Nat → Nat, ∀ k, ag k = (I 150 k).toNat := ⟨_, fun _ => rfl⟩
  have hag : ∀ k, k < n → I 150 k = (ag k : Int) ∧ ag k < 5 := fun k hk => by have h1 := hg_5 k (by omega); have h2 := hag0 k; omega
  have hvo : ∀ p, p < c → 0 ≤ vo p ∧ vo p ≤ 9 := fun p hp => (hM.2.2.2.2.2.2.2 p hp).2.2.2.2.2.1
  have hb01 : ∀ p, p < 6 → I (11 + 3 * p) 3 = 0 ∨ I (11 + 3 * p) 3 = 1 := fun p hp => by rw [hNa.1 p hp]; exact x_b01 _
  have hze : 0 ≤ I 5 2 ∧ I 5 2 ≤ 5 := by have h1 := hNe.1; have h2 := hNe.2.1; have h3 := hNe.2.2.1; omega
  have hzp : 0 ≤ I 7 2 ∧ I 7 2 ≤ 10 := by have h1 := hNp.1; have h2 := hNp.2.1; have h3 := hNp.2.2.1; omega
  have hzk : 0 ≤ I 9 2 ∧ I 9 2 ≤ 8 := by have h1 := hNk.1; have h2 := hNk.2.1; have h3 := hNk.2.2.1; omega
  have hc1 := hWW.1
  have hp : p < c := x_natC hc1 hv
  obtain ⟨m, sw, so, st, sm, hsn⟩ := hNe.sn
  refine x_CQ.of (M := xM_G_bases) rfl (Nat.le_of_ble_eq_true rfl) ?_
  refine ex_st 2 (pc' := 2) (ls' := [(0, xr 0), (1, xi (↑p)), (2, xi (↑x)), (3, xi 0)]) (st' := [xi (↑p), xr 0]) rfl ?_
  refine ex_call (ct_G_isOfficial2 (c := I 1 1) (by first | omega | (constructor <;> omega) | assumption | ((repeat rw [x_up_far (by omega)]); first | rfl | omega | (constructor <;> omega))) (by (repeat rw [x_up_far (by omega)]); try rfl) (by first | omega | (constructor <;> omega) | assumption | ((repeat rw [x_up_far (by omega)]); first | rfl | omega | (constructor <;> omega)))) (by decide) rfl ⟨rfl, rfl, rfl⟩ ⟨Nat.le_of_ble_eq_true rfl, rfl, rfl⟩ (Nat.le_of_ble_eq_true rfl) rfl ?_
  refine ex_beq rfl (fun h0 => ?_) (fun h0 => ?_)
  · exfalso; omega
  · refine ex_st 1 (pc' := 9) (ls' := [(0, xr 0), (1, xi (↑p)), (2, xi (↑x)), (3, xi 0)]) (st' := [xi (↑x)]) rfl ?_
    refine ex_call (ct_G_isThing (by first | omega | (constructor <;> omega) | assumption)) (by decide) rfl ⟨rfl, rfl, rfl⟩ ⟨Nat.le_of_ble_eq_true rfl, rfl, rfl⟩ (Nat.le_of_ble_eq_true rfl) rfl ?_
    refine ex_beq rfl (fun h1 => ?_) (fun h1 => ?_)
    · exfalso; omega
    · refine ex_st 1 (pc' := 16) (ls' := [(0, xr 0), (1, xi (↑p)), (2, xi (↑x)), (3, xi 0)]) (st' := [xi 0]) rfl ?_
      refine ex_call (ct_G_isZeroOrOne (by first | omega | (constructor <;> omega) | assumption)) (by decide) rfl ⟨rfl, rfl, rfl⟩ ⟨Nat.le_of_ble_eq_true rfl, rfl, rfl⟩ (Nat.le_of_ble_eq_true rfl) rfl ?_
      refine ex_bne rfl (fun h2 => ?_) (fun h2 => ?_)
      · refine ex_st 4 (pc' := 32) (ls' := [(0, xr 0), (1, xi (↑p)), (2, xi (↑x)), (3, xi 0)]) (st' := [xr 1, xr 57]) rfl ?_
        refine ex_callQ (ct_W_become57_1 (L := L) hb01 hze hzp hzk) (by decide) rfl ⟨rfl, rfl, rfl⟩ ⟨Nat.le_of_ble_eq_true rfl, rfl, rfl⟩ (Nat.le_of_ble_eq_true rfl) rfl (fun ra m2 hQ => ?_)
        obtain ⟨rfl, J0, rfl, hWB⟩ := hQ
        have hJ0 : ∀ k j, ¬ (57 ≤ k ∧ k ≤ 84) → J0 k j = I k j := hWB.2.2.2.2.2.2.2.2
        have hXt0 := hXt.fr (I' := J0) (fun k j a b => hJ0 k j (by omega))
        have hI57 : J0 57 7 = I 143 13 := by rw [hWB.2.1.2.2.2.2]; exact hI17
        refine ex_st 6 (pc' := 46) (ls' := [(6, xi 9), (5, xi (-5)), (4, xi 0), (0, xr 0), (1, xi (↑p)), (2, xi (↑x)), (3, xi 0)]) (st' := []) rfl ?_
        refine lp_Gbases (L := L) (p := p) hp (x := x) hx (w1 := 0) 0 (by decide) J0 (fun _ _ _ => rfl) (WB57.ww hWB hWW) hXt0 hI57 (WB57.sn hWB hNe hsn) (fun J hJ1 => ?_)
        have hJ : ∀ k j, ¬ ((57 ≤ k ∧ k ≤ 84) ∨ (92 ≤ k ∧ k ≤ 103)) → J k j = I k j := fun k j hk => by rw [hJ1 _ _ hk, hJ0 _ _ (by omega)]
        refine ex_st 1 (pc' := 89) (ls' := [(6, xi (-1)), (5, xi ((sp_cn (sp_Pb kd vv ba ro egg se cd we en cc p x sw so st sm m) 10).2)), (4, xi (↑((sp_cn (sp_Pb kd vv ba ro egg se cd we en cc p x sw so st sm m) 10).1))), (0, xr 0), (1, xi (↑p)), (2, xi (↑x)), (3, xi 0)]) (st' := [xi 0]) rfl ?_
        refine ex_st 1 (pc' := 92) (ls' := [(6, xi (-1)), (5, xi ((sp_cn (sp_Pb kd vv ba ro egg se cd we en cc p x sw so st sm m) 10).2)), (4, xi (↑((sp_cn (sp_Pb kd vv ba ro egg se cd we en cc p x sw so st sm m) 10).1))), (0, xr 0), (1, xi (↑p)), (2, xi (↑x)), (3, xi 0)]) (st' := []) rfl ?_
        refine ex_st 2 (pc' := 99) (ls' := [(6, xi (-1)), (5, xi ((sp_cn (sp_Pb kd vv ba ro egg se cd we en cc p x sw so st sm m) 10).2)), (4, xi (↑((sp_cn (sp_Pb kd vv ba ro egg se cd we en cc p x sw so st sm m) 10).1))), (0, xr 0), (1, xi (↑p)), (2, xi (↑x)), (3, xi 0)]) (st' := [xi (↑((sp_cn (sp_Pb kd vv ba ro egg se cd we en cc p x sw so st sm m) 10).1))]) rfl ?_
        refine ex_reti rfl rfl ?_
        refine x_CQ.of (M := xM_m_bases) rfl (Nat.le_of_ble_eq_true rfl) ?_
        refine ex_st 2 (pc' := 2) (ls' := [(0, xr 143), (1, xi (↑p)), (2, xi (↑x)), (3, xi 0)]) (st' := [xi (↑p), xr 143]) rfl ?_
        refine ex_call (ct_m_isOfficial2 (c := I 143 0) (by constructor <;> omega) (hJ _ _ (by omega)) (by omega)) (by decide) rfl ⟨rfl, rfl, rfl⟩ ⟨Nat.le_of_ble_eq_true rfl, rfl, rfl⟩ (Nat.le_of_ble_eq_true rfl) rfl ?_
        refine ex_beq rfl (fun h3 => ?_) (fun h3 => ?_)
        · exfalso; omega
        · refine ex_st 2 (pc' := 10) (ls' := [(0, xr 143), (1, xi (↑p)), (2, xi (↑x)), (3, xi 0)]) (st' := [xi (↑x), xr 143]) rfl ?_
          refine ex_call (ct_m_isThing (by first | omega | (constructor <;> omega) | assumption)) (by decide) rfl ⟨rfl, rfl, rfl⟩ ⟨Nat.le_of_ble_eq_true rfl, rfl, rfl⟩ (Nat.le_of_ble_eq_true rfl) rfl ?_
          refine ex_beq rfl (fun h4 => ?_) (fun h4 => ?_)
          · exfalso; omega
          · refine ex_st 4 (pc' := 20) (ls' := [(0, xr 143), (1, xi (↑p)), (2, xi (↑x)), (3, xi 0)]) (st' := [xi 1, xi 0, xi 0, xr 143]) rfl ?_
            refine ex_call (ct_m_in (by first | omega | (constructor <;> omega) | assumption) (by first | omega | (constructor <;> omega) | assumption) (by first | omega | (constructor <;> omega) | assumption)) (by decide) rfl ⟨rfl, rfl, rfl⟩ ⟨Nat.le_of_ble_eq_true rfl, rfl, rfl⟩ (Nat.le_of_ble_eq_true rfl) rfl ?_
            refine ex_bne rfl (fun h5 => ?_) (fun h5 => ?_)
            · refine ex_st 7 (pc' := 37) (ls' := [(0, xr 143), (1, xi (↑p)), (2, xi (↑x)), (3, xi 0)]) (st' := [xi ((5 * (↑p)) + (↑x)), xr 147]) rfl ?_
              refine ex_iald (j := ((5 * (p)) + (x))) rfl (by decide) (rfl : xSH[147]? = some _) (by omega) (by omega) (by decide) ?_
              rw [(hJ _ _ (by omega) : J 147 ((5 * (p)) + (x)) = I 147 ((5 * (p)) + (x)))]
              refine ex_st 7 (pc' := 51) (ls' := [(7, xi 9), (6, xi (-5)), (5, xi 0), (4, xi (I 147 ((5 * (p)) + (x)))), (0, xr 143), (1, xi (↑p)), (2, xi (↑x)), (3, xi 0)]) (st' := []) rfl ?_
              have hMJ := hM.fr2 (I' := J) (fun k j a b => hJ k j (by omega))
              have hTJ := hMT.fr2 (I' := J) (fun k j a b => hJ k j (by omega))
              refine lp_Mbases (L := L) (p := p) hp (x := x) hx (w1 := 0) (was := I 147 ((5 * (p)) + (x))) 0 (by decide) J (fun _ _ _ => rfl) hMJ hTJ (hsn.fr (hJ _ _ (by omega)) (fun k j a b => hJ k j (by omega))) (fun K hK1 => ?_)
              have hK : ∀ k j, ¬ ((57 ≤ k ∧ k ≤ 84) ∨ (92 ≤ k ∧ k ≤ 103) ∨ k = 160 ∨ (k = 147 ∧ j = 5 * p + x)) → K k j = I k j := fun k j hk => by rw [hK1 _ _ (by omega), hJ _ _ (by omega)]
              refine ex_st 8 (pc' := 103) (ls' := [(7, xi (-1)), (6, xi ((sp_cn (sp_Pb kd vv ba ro egg se cd we en cc p x sw so st sm m) 10).2)), (5, xi (↑((sp_cn (sp_Pb kd vv ba ro egg se cd we en cc p x sw so st sm m) 10).1))), (4, xi (I 147 ((5 * (p)) + (x)))), (0, xr 143), (1, xi (↑p)), (2, xi (↑x)), (3, xi 0)]) (st' := [xi (I 147 ((5 * (p)) + (x))), xi ((5 * (↑p)) + (↑x)), xr 147]) rfl ?_
              refine ex_iast (j := ((5 * (p)) + (x))) rfl (by decide) (rfl : xSH[147]? = some _) (by omega) (by omega) (by decide) ?_
              refine ex_st 1 (pc' := 105) (ls' := [(7, xi (-1)), (6, xi ((sp_cn (sp_Pb kd vv ba ro egg se cd we en cc p x sw so st sm m) 10).2)), (5, xi (↑((sp_cn (sp_Pb kd vv ba ro egg se cd we en cc p x sw so st sm m) 10).1))), (4, xi (I 147 ((5 * (p)) + (x)))), (0, xr 143), (1, xi (↑p)), (2, xi (↑x)), (3, xi 0)]) (st' := [xi 0]) rfl ?_
              refine ex_st 1 (pc' := 108) (ls' := [(7, xi (-1)), (6, xi ((sp_cn (sp_Pb kd vv ba ro egg se cd we en cc p x sw so st sm m) 10).2)), (5, xi (↑((sp_cn (sp_Pb kd vv ba ro egg se cd we en cc p x sw so st sm m) 10).1))), (4, xi (I 147 ((5 * (p)) + (x)))), (0, xr 143), (1, xi (↑p)), (2, xi (↑x)), (3, xi 0)]) (st' := []) rfl ?_
              refine ex_st 2 (pc' := 115) (ls' := [(7, xi (-1)), (6, xi ((sp_cn (sp_Pb kd vv ba ro egg se cd we en cc p x sw so st sm m) 10).2)), (5, xi (↑((sp_cn (sp_Pb kd vv ba ro egg se cd we en cc p x sw so st sm m) 10).1))), (4, xi (I 147 ((5 * (p)) + (x)))), (0, xr 143), (1, xi (↑p)), (2, xi (↑x)), (3, xi 0)]) (st' := [xi (↑((sp_cn (sp_Pb kd vv ba ro egg se cd we en cc p x sw so st sm m) 10).1))]) rfl ?_
              refine ex_reti rfl rfl ?_
              generalize hMm : (x_up K 147 ((5 * (p)) + (x)) (I 147 ((5 * (p)) + (x)))) = K9
              have hK9 : ∀ k j, ¬ x_scr k j → K9 k j = I k j := fun k j hk => by
                unfold x_scr at hk
                by_cases e : (k = 147 ∧ j = 5 * p + x)
                · obtain ⟨rfl, rfl⟩ := e; rw [← hMm]; exact x_up_at2 rfl (by omega)
                · rw [← hMm, x_up_far (by omega)]; exact hK _ _ (by omega)
              exact ⟨x_req (by first | rfl | omega), K9, _, rfl, hR.fr hK9 (fun _ _ => rfl)⟩
            · exfalso; omega
      · exfalso; omega
set_option maxRecDepth 8000 in
set_option maxHeartbeats 2000000 in
theorem op_bases_1 {sc : List Int} {I : Nat → Nat → Int} {L : Nat → Nat → Int64} (hR : Rl I L) {p : Nat} (hv : (p : Int) < I 1 1) {x : Nat} (hx : x < 5) : x_PQ sc xN_G_bases [xr 0, xi (↑p), xi (↑x), xi 1] xN_m_bases [xr 143, xi (↑p), xi (↑x), xi 1] (xSH, I, L) := by
  obtain ⟨⟨hNs, hNo, hNa, hNb, hNr, hNd, hNg, hNe, hNp, hNk⟩, hI, hT, hX, hC, hH, hQ⟩ := id hR
  have hs := hNs
  unfold RNs at hs
  obtain ⟨c, kd, vv, vo, aw, ba, ro, egg, se, hWW, hM⟩ := hR.vw
  have hT2 := hT
  unfold RT at hT2
  obtain ⟨T, nn, cc, cd, we, en, qv, hXt⟩ := RT.tr hT (t := I 143 13) (by omega) (by omega)
  have hX2 := id hXt
  obtain ⟨u1, u2, u3, u4, u5, u6, u7, u8, u9, u10⟩ := hX2
  have hMT := u10 rfl
  obtain ⟨g, hg1, hg, hgs, hgp⟩ := hM.pres
  have hI17 : I 1 7 = I 143 13 := by omega
  have hs64 := sp_mask64 (sp_nz aw) (n := c) (by have := hWW.2.1; omega)
  have hsN : sp_mask (sp_nz aw) c = (((sp_mask (sp_nz aw) c).toNat : Nat) : Int) := by have := (sp_mask_bd (sp_nz aw) c).1; omega
  obtain ⟨hg_1, hg_2, hg_3, hg_4, hg_5, hg_6⟩ := id hNg
  obtain ⟨n, hn⟩ := Int.eq_ofNat_of_zero_le hg_2
  obtain ⟨ag, hag0⟩ : ∃ ag : Nat → Nat, ∀ k, ag k = (I 150 k).toNat := ⟨_, fun _ => rfl⟩
  have hag : ∀ k, k < n → I 150 k = (ag k : Int) ∧ ag k < 5 := fun k hk => by have h1 := hg_5 k (by omega); have h2 := hag0 k; omega
  have hvo : ∀ p, p < c → 0 ≤ vo p ∧ vo p ≤ 9 := fun p hp => (hM.2.2.2.2.2.2.2 p hp).2.2.2.2.2.1
  have hb01 : ∀ p, p < 6 → I (11 + 3 * p) 3 = 0 ∨ I (11 + 3 * p) 3 = 1 := fun p hp => by rw [hNa.1 p hp]; exact x_b01 _
  have hze : 0 ≤ I 5 2 ∧ I 5 2 ≤ 5 := by have h1 := hNe.1; have h2 := hNe.2.1; have h3 := hNe.2.2.1; omega
  have hzp : 0 ≤ I 7 2 ∧ I 7 2 ≤ 10 := by have h1 := hNp.1; have h2 := hNp.2.1; have h3 := hNp.2.2.1; omega
  have hzk : 0 ≤ I 9 2 ∧ I 9 2 ≤ 8 := by have h1 := hNk.1; have h2 := hNk.2.1; have h3 := hNk.2.2.1; omega
  have hc1 := hWW.1
  have hp : p < c := x_natC hc1 hv
  obtain ⟨m, sw, so, st, sm, hsn⟩ := hNe.sn
  refine x_CQ.of (M := xM_G_bases) rfl (Nat.le_of_ble_eq_true rfl) ?_
  refine ex_st 2 (pc' := 2) (ls' := [(0, xr 0), (1, xi (↑p)), (2, xi (↑x)), (3, xi 1)]) (st' := [xi (↑p), xr 0]) rfl ?_
  refine ex_call (ct_G_isOfficial2 (c := I 1 1) (by first | omega | (constructor <;> omega) | assumption | ((repeat rw [x_up_far (by omega)]); first | rfl | omega | (constructor <;> omega))) (by (repeat rw [x_up_far (by omega)]); try rfl) (by first | omega | (constructor <;> omega) | assumption | ((repeat rw [x_up_far (by omega)]); first | rfl | omega | (constructor <;> omega)))) (by decide) rfl ⟨rfl, rfl, rfl⟩ ⟨Nat.le_of_ble_eq_true rfl, rfl, rfl⟩ (Nat.le_of_ble_eq_true rfl) rfl ?_
  refine ex_beq rfl (fun h0 => ?_) (fun h0 => ?_)
  · exfalso; omega
  · refine ex_st 1 (pc' := 9) (ls' := [(0, xr 0), (1, xi (↑p)), (2, xi (↑x)), (3, xi 1)]) (st' := [xi (↑x)]) rfl ?_
    refine ex_call (ct_G_isThing (by first | omega | (constructor <;> omega) | assumption)) (by decide) rfl ⟨rfl, rfl, rfl⟩ ⟨Nat.le_of_ble_eq_true rfl, rfl, rfl⟩ (Nat.le_of_ble_eq_true rfl) rfl ?_
    refine ex_beq rfl (fun h1 => ?_) (fun h1 => ?_)
    · exfalso; omega
    · refine ex_st 1 (pc' := 16) (ls' := [(0, xr 0), (1, xi (↑p)), (2, xi (↑x)), (3, xi 1)]) (st' := [xi 1]) rfl ?_
      refine ex_call (ct_G_isZeroOrOne (by first | omega | (constructor <;> omega) | assumption)) (by decide) rfl ⟨rfl, rfl, rfl⟩ ⟨Nat.le_of_ble_eq_true rfl, rfl, rfl⟩ (Nat.le_of_ble_eq_true rfl) rfl ?_
      refine ex_bne rfl (fun h2 => ?_) (fun h2 => ?_)
      · refine ex_st 4 (pc' := 32) (ls' := [(0, xr 0), (1, xi (↑p)), (2, xi (↑x)), (3, xi 1)]) (st' := [xr 1, xr 57]) rfl ?_
        refine ex_callQ (ct_W_become57_1 (L := L) hb01 hze hzp hzk) (by decide) rfl ⟨rfl, rfl, rfl⟩ ⟨Nat.le_of_ble_eq_true rfl, rfl, rfl⟩ (Nat.le_of_ble_eq_true rfl) rfl (fun ra m2 hQ => ?_)
        obtain ⟨rfl, J0, rfl, hWB⟩ := hQ
        have hJ0 : ∀ k j, ¬ (57 ≤ k ∧ k ≤ 84) → J0 k j = I k j := hWB.2.2.2.2.2.2.2.2
        have hXt0 := hXt.fr (I' := J0) (fun k j a b => hJ0 k j (by omega))
        have hI57 : J0 57 7 = I 143 13 := by rw [hWB.2.1.2.2.2.2]; exact hI17
        refine ex_st 6 (pc' := 46) (ls' := [(6, xi 9), (5, xi (-5)), (4, xi 0), (0, xr 0), (1, xi (↑p)), (2, xi (↑x)), (3, xi 1)]) (st' := []) rfl ?_
        refine lp_Gbases (L := L) (p := p) hp (x := x) hx (w1 := 1) 0 (by decide) J0 (fun _ _ _ => rfl) (WB57.ww hWB hWW) hXt0 hI57 (WB57.sn hWB hNe hsn) (fun J hJ1 => ?_)
        have hJ : ∀ k j, ¬ ((57 ≤ k ∧ k ≤ 84) ∨ (92 ≤ k ∧ k ≤ 103)) → J k j = I k j := fun k j hk => by rw [hJ1 _ _ hk, hJ0 _ _ (by omega)]
        refine ex_st 1 (pc' := 89) (ls' := [(6, xi (-1)), (5, xi ((sp_cn (sp_Pb kd vv ba ro egg se cd we en cc p x sw so st sm m) 10).2)), (4, xi (↑((sp_cn (sp_Pb kd vv ba ro egg se cd we en cc p x sw so st sm m) 10).1))), (0, xr 0), (1, xi (↑p)), (2, xi (↑x)), (3, xi 1)]) (st' := [xi 1]) rfl ?_
        refine ex_st 1 (pc' := 97) (ls' := [(6, xi (-1)), (5, xi ((sp_cn (sp_Pb kd vv ba ro egg se cd we en cc p x sw so st sm m) 10).2)), (4, xi (↑((sp_cn (sp_Pb kd vv ba ro egg se cd we en cc p x sw so st sm m) 10).1))), (0, xr 0), (1, xi (↑p)), (2, xi (↑x)), (3, xi 1)]) (st' := []) rfl ?_
        refine ex_st 1 (pc' := 99) (ls' := [(6, xi (-1)), (5, xi ((sp_cn (sp_Pb kd vv ba ro egg se cd we en cc p x sw so st sm m) 10).2)), (4, xi (↑((sp_cn (sp_Pb kd vv ba ro egg se cd we en cc p x sw so st sm m) 10).1))), (0, xr 0), (1, xi (↑p)), (2, xi (↑x)), (3, xi 1)]) (st' := [xi ((sp_cn (sp_Pb kd vv ba ro egg se cd we en cc p x sw so st sm m) 10).2)]) rfl ?_
        refine ex_reti rfl rfl ?_
        refine x_CQ.of (M := xM_m_bases) rfl (Nat.le_of_ble_eq_true rfl) ?_
        refine ex_st 2 (pc' := 2) (ls' := [(0, xr 143), (1, xi (↑p)), (2, xi (↑x)), (3, xi 1)]) (st' := [xi (↑p), xr 143]) rfl ?_
        refine ex_call (ct_m_isOfficial2 (c := I 143 0) (by constructor <;> omega) (hJ _ _ (by omega)) (by omega)) (by decide) rfl ⟨rfl, rfl, rfl⟩ ⟨Nat.le_of_ble_eq_true rfl, rfl, rfl⟩ (Nat.le_of_ble_eq_true rfl) rfl ?_
        refine ex_beq rfl (fun h3 => ?_) (fun h3 => ?_)
        · exfalso; omega
        · refine ex_st 2 (pc' := 10) (ls' := [(0, xr 143), (1, xi (↑p)), (2, xi (↑x)), (3, xi 1)]) (st' := [xi (↑x), xr 143]) rfl ?_
          refine ex_call (ct_m_isThing (by first | omega | (constructor <;> omega) | assumption)) (by decide) rfl ⟨rfl, rfl, rfl⟩ ⟨Nat.le_of_ble_eq_true rfl, rfl, rfl⟩ (Nat.le_of_ble_eq_true rfl) rfl ?_
          refine ex_beq rfl (fun h4 => ?_) (fun h4 => ?_)
          · exfalso; omega
          · refine ex_st 4 (pc' := 20) (ls' := [(0, xr 143), (1, xi (↑p)), (2, xi (↑x)), (3, xi 1)]) (st' := [xi 1, xi 0, xi 1, xr 143]) rfl ?_
            refine ex_call (ct_m_in (by first | omega | (constructor <;> omega) | assumption) (by first | omega | (constructor <;> omega) | assumption) (by first | omega | (constructor <;> omega) | assumption)) (by decide) rfl ⟨rfl, rfl, rfl⟩ ⟨Nat.le_of_ble_eq_true rfl, rfl, rfl⟩ (Nat.le_of_ble_eq_true rfl) rfl ?_
            refine ex_bne rfl (fun h5 => ?_) (fun h5 => ?_)
            · refine ex_st 7 (pc' := 37) (ls' := [(0, xr 143), (1, xi (↑p)), (2, xi (↑x)), (3, xi 1)]) (st' := [xi ((5 * (↑p)) + (↑x)), xr 147]) rfl ?_
              refine ex_iald (j := ((5 * (p)) + (x))) rfl (by decide) (rfl : xSH[147]? = some _) (by omega) (by omega) (by decide) ?_
              rw [(hJ _ _ (by omega) : J 147 ((5 * (p)) + (x)) = I 147 ((5 * (p)) + (x)))]
              refine ex_st 7 (pc' := 51) (ls' := [(7, xi 9), (6, xi (-5)), (5, xi 0), (4, xi (I 147 ((5 * (p)) + (x)))), (0, xr 143), (1, xi (↑p)), (2, xi (↑x)), (3, xi 1)]) (st' := []) rfl ?_
              have hMJ := hM.fr2 (I' := J) (fun k j a b => hJ k j (by omega))
              have hTJ := hMT.fr2 (I' := J) (fun k j a b => hJ k j (by omega))
              refine lp_Mbases (L := L) (p := p) hp (x := x) hx (w1 := 1) (was := I 147 ((5 * (p)) + (x))) 0 (by decide) J (fun _ _ _ => rfl) hMJ hTJ (hsn.fr (hJ _ _ (by omega)) (fun k j a b => hJ k j (by omega))) (fun K hK1 => ?_)
              have hK : ∀ k j, ¬ ((57 ≤ k ∧ k ≤ 84) ∨ (92 ≤ k ∧ k ≤ 103) ∨ k = 160 ∨ (k = 147 ∧ j = 5 * p + x)) → K k j = I k j := fun k j hk => by rw [hK1 _ _ (by omega), hJ _ _ (by omega)]
              refine ex_st 8 (pc' := 103) (ls' := [(7, xi (-1)), (6, xi ((sp_cn (sp_Pb kd vv ba ro egg se cd we en cc p x sw so st sm m) 10).2)), (5, xi (↑((sp_cn (sp_Pb kd vv ba ro egg se cd we en cc p x sw so st sm m) 10).1))), (4, xi (I 147 ((5 * (p)) + (x)))), (0, xr 143), (1, xi (↑p)), (2, xi (↑x)), (3, xi 1)]) (st' := [xi (I 147 ((5 * (p)) + (x))), xi ((5 * (↑p)) + (↑x)), xr 147]) rfl ?_
              refine ex_iast (j := ((5 * (p)) + (x))) rfl (by decide) (rfl : xSH[147]? = some _) (by omega) (by omega) (by decide) ?_
              refine ex_st 1 (pc' := 105) (ls' := [(7, xi (-1)), (6, xi ((sp_cn (sp_Pb kd vv ba ro egg se cd we en cc p x sw so st sm m) 10).2)), (5, xi (↑((sp_cn (sp_Pb kd vv ba ro egg se cd we en cc p x sw so st sm m) 10).1))), (4, xi (I 147 ((5 * (p)) + (x)))), (0, xr 143), (1, xi (↑p)), (2, xi (↑x)), (3, xi 1)]) (st' := [xi 1]) rfl ?_
              refine ex_st 1 (pc' := 113) (ls' := [(7, xi (-1)), (6, xi ((sp_cn (sp_Pb kd vv ba ro egg se cd we en cc p x sw so st sm m) 10).2)), (5, xi (↑((sp_cn (sp_Pb kd vv ba ro egg se cd we en cc p x sw so st sm m) 10).1))), (4, xi (I 147 ((5 * (p)) + (x)))), (0, xr 143), (1, xi (↑p)), (2, xi (↑x)), (3, xi 1)]) (st' := []) rfl ?_
              refine ex_st 1 (pc' := 115) (ls' := [(7, xi (-1)), (6, xi ((sp_cn (sp_Pb kd vv ba ro egg se cd we en cc p x sw so st sm m) 10).2)), (5, xi (↑((sp_cn (sp_Pb kd vv ba ro egg se cd we en cc p x sw so st sm m) 10).1))), (4, xi (I 147 ((5 * (p)) + (x)))), (0, xr 143), (1, xi (↑p)), (2, xi (↑x)), (3, xi 1)]) (st' := [xi ((sp_cn (sp_Pb kd vv ba ro egg se cd we en cc p x sw so st sm m) 10).2)]) rfl ?_
              refine ex_reti rfl rfl ?_
              generalize hMm : (x_up K 147 ((5 * (p)) + (x)) (I 147 ((5 * (p)) + (x)))) = K9
              have hK9 : ∀ k j, ¬ x_scr k j → K9 k j = I k j := fun k j hk => by
                unfold x_scr at hk
                by_cases e : (k = 147 ∧ j = 5 * p + x)
                · obtain ⟨rfl, rfl⟩ := e; rw [← hMm]; exact x_up_at2 rfl (by omega)
                · rw [← hMm, x_up_far (by omega)]; exact hK _ _ (by omega)
              exact ⟨x_req (by first | rfl | omega), K9, _, rfl, hR.fr hK9 (fun _ _ => rfl)⟩
            · exfalso; omega
      · exfalso; omega
theorem op_can_x {sc : List Int} {I : Nat → Nat → Int} {L : Nat → Nat → Int64} (hR : Rl I L) {x w : Int} (hx : x_R x) (hw : x_R w) (h : ¬ ((0 ≤ x ∧ x < I 1 1) ∧ (w = 0 ∨ w = 1))) : x_PQ sc xN_G_can [xr 0, xi x, xi w] xN_m_can [xr 143, xi x, xi w] (xSH, I, L) := by
  obtain ⟨⟨hNs, hNo, hNa, hNb, hNr, hNd, hNg, hNe, hNp, hNk⟩, hI, hT, hX, hC, hH, hQ⟩ := id hR
  have hs := hNs
  unfold RNs at hs
  refine x_CQ.of (M := xM_G_can) rfl (Nat.le_of_ble_eq_true rfl) ?_
  refine ex_st 2 (pc' := 2) (ls' := [(0, xr 0), (1, xi x), (2, xi w)]) (st' := [xi x, xr 0]) rfl ?_
  refine ex_call (ct_G_isOfficial2 (c := I 1 1) (by first | omega | (constructor <;> omega) | assumption | ((repeat rw [x_up_far (by omega)]); first | rfl | omega | (constructor <;> omega))) (by (repeat rw [x_up_far (by omega)]); try rfl) (by first | omega | (constructor <;> omega) | assumption | ((repeat rw [x_up_far (by omega)]); first | rfl | omega | (constructor <;> omega)))) (by decide) rfl ⟨rfl, rfl, rfl⟩ ⟨Nat.le_of_ble_eq_true rfl, rfl, rfl⟩ (Nat.le_of_ble_eq_true rfl) rfl ?_
  refine ex_beq rfl (fun h0 => ?_) (fun h0 => ?_)
  · refine ex_st 1 (pc' := 16) (ls' := [(0, xr 0), (1, xi x), (2, xi w)]) (st' := [xi (-1)]) rfl ?_
    refine ex_reti rfl rfl ?_
    refine x_CQ.of (M := xM_m_can) rfl (Nat.le_of_ble_eq_true rfl) ?_
    refine ex_st 2 (pc' := 2) (ls' := [(0, xr 143), (1, xi x), (2, xi w)]) (st' := [xi x, xr 143]) rfl ?_
    refine ex_call (ct_m_isOfficial2 (c := I 143 0) (by first | omega | (constructor <;> omega) | assumption | ((repeat rw [x_up_far (by omega)]); first | rfl | omega | (constructor <;> omega))) (by (repeat rw [x_up_far (by omega)]); try rfl) (by first | omega | (constructor <;> omega) | assumption | ((repeat rw [x_up_far (by omega)]); first | rfl | omega | (constructor <;> omega)))) (by decide) rfl ⟨rfl, rfl, rfl⟩ ⟨Nat.le_of_ble_eq_true rfl, rfl, rfl⟩ (Nat.le_of_ble_eq_true rfl) rfl ?_
    refine ex_beq rfl (fun h1 => ?_) (fun h1 => ?_)
    · refine ex_st 1 (pc' := 19) (ls' := [(0, xr 143), (1, xi x), (2, xi w)]) (st' := [xi (-1)]) rfl ?_
      refine ex_reti rfl rfl ?_
      exact ⟨x_req (by first | rfl | omega), _, _, rfl, hR⟩
    · exfalso; omega
  · refine ex_st 1 (pc' := 9) (ls' := [(0, xr 0), (1, xi x), (2, xi w)]) (st' := [xi w]) rfl ?_
    refine ex_call (ct_G_isZeroOrOne (by first | omega | (constructor <;> omega) | assumption)) (by decide) rfl ⟨rfl, rfl, rfl⟩ ⟨Nat.le_of_ble_eq_true rfl, rfl, rfl⟩ (Nat.le_of_ble_eq_true rfl) rfl ?_
    refine ex_bne rfl (fun h2 => ?_) (fun h2 => ?_)
    · exfalso; omega
    · refine ex_st 1 (pc' := 16) (ls' := [(0, xr 0), (1, xi x), (2, xi w)]) (st' := [xi (-1)]) rfl ?_
      refine ex_reti rfl rfl ?_
      refine x_CQ.of (M := xM_m_can) rfl (Nat.le_of_ble_eq_true rfl) ?_
      refine ex_st 2 (pc' := 2) (ls' := [(0, xr 143), (1, xi x), (2, xi w)]) (st' := [xi x, xr 143]) rfl ?_
      refine ex_call (ct_m_isOfficial2 (c := I 143 0) (by first | omega | (constructor <;> omega) | assumption | ((repeat rw [x_up_far (by omega)]); first | rfl | omega | (constructor <;> omega))) (by (repeat rw [x_up_far (by omega)]); try rfl) (by first | omega | (constructor <;> omega) | assumption | ((repeat rw [x_up_far (by omega)]); first | rfl | omega | (constructor <;> omega)))) (by decide) rfl ⟨rfl, rfl, rfl⟩ ⟨Nat.le_of_ble_eq_true rfl, rfl, rfl⟩ (Nat.le_of_ble_eq_true rfl) rfl ?_
      refine ex_beq rfl (fun h3 => ?_) (fun h3 => ?_)
      · exfalso; omega
      · refine ex_st 4 (pc' := 12) (ls' := [(0, xr 143), (1, xi x), (2, xi w)]) (st' := [xi 1, xi 0, xi w, xr 143]) rfl ?_
        refine ex_call (ct_m_in (by first | omega | (constructor <;> omega) | assumption) (by first | omega | (constructor <;> omega) | assumption) (by first | omega | (constructor <;> omega) | assumption)) (by decide) rfl ⟨rfl, rfl, rfl⟩ ⟨Nat.le_of_ble_eq_true rfl, rfl, rfl⟩ (Nat.le_of_ble_eq_true rfl) rfl ?_
        refine ex_bne rfl (fun h4 => ?_) (fun h4 => ?_)
        · exfalso; omega
        · refine ex_st 1 (pc' := 19) (ls' := [(0, xr 143), (1, xi x), (2, xi w)]) (st' := [xi (-1)]) rfl ?_
          refine ex_reti rfl rfl ?_
          exact ⟨x_req (by first | rfl | omega), _, _, rfl, hR⟩
theorem op_bases_x {sc : List Int} {I : Nat → Nat → Int} {L : Nat → Nat → Int64} (hR : Rl I L) {x y w : Int} (hx : x_R x) (hy : x_R y) (hw : x_R w) (h : ¬ ((0 ≤ x ∧ x < I 1 1) ∧ (0 ≤ y ∧ y < 5) ∧ (w = 0 ∨ w = 1))) : x_PQ sc xN_G_bases [xr 0, xi x, xi y, xi w] xN_m_bases [xr 143, xi x, xi y, xi w] (xSH, I, L) := by
  obtain ⟨⟨hNs, hNo, hNa, hNb, hNr, hNd, hNg, hNe, hNp, hNk⟩, hI, hT, hX, hC, hH, hQ⟩ := id hR
  have hs := hNs
  unfold RNs at hs
  refine x_CQ.of (M := xM_G_bases) rfl (Nat.le_of_ble_eq_true rfl) ?_
  refine ex_st 2 (pc' := 2) (ls' := [(0, xr 0), (1, xi x), (2, xi y), (3, xi w)]) (st' := [xi x, xr 0]) rfl ?_
  refine ex_call (ct_G_isOfficial2 (c := I 1 1) (by first | omega | (constructor <;> omega) | assumption | ((repeat rw [x_up_far (by omega)]); first | rfl | omega | (constructor <;> omega))) (by (repeat rw [x_up_far (by omega)]); try rfl) (by first | omega | (constructor <;> omega) | assumption | ((repeat rw [x_up_far (by omega)]); first | rfl | omega | (constructor <;> omega)))) (by decide) rfl ⟨rfl, rfl, rfl⟩ ⟨Nat.le_of_ble_eq_true rfl, rfl, rfl⟩ (Nat.le_of_ble_eq_true rfl) rfl ?_
  refine ex_beq rfl (fun h0 => ?_) (fun h0 => ?_)
  · refine ex_st 1 (pc' := 23) (ls' := [(0, xr 0), (1, xi x), (2, xi y), (3, xi w)]) (st' := [xi (-1)]) rfl ?_
    refine ex_reti rfl rfl ?_
    refine x_CQ.of (M := xM_m_bases) rfl (Nat.le_of_ble_eq_true rfl) ?_
    refine ex_st 2 (pc' := 2) (ls' := [(0, xr 143), (1, xi x), (2, xi y), (3, xi w)]) (st' := [xi x, xr 143]) rfl ?_
    refine ex_call (ct_m_isOfficial2 (c := I 143 0) (by first | omega | (constructor <;> omega) | assumption | ((repeat rw [x_up_far (by omega)]); first | rfl | omega | (constructor <;> omega))) (by (repeat rw [x_up_far (by omega)]); try rfl) (by first | omega | (constructor <;> omega) | assumption | ((repeat rw [x_up_far (by omega)]); first | rfl | omega | (constructor <;> omega)))) (by decide) rfl ⟨rfl, rfl, rfl⟩ ⟨Nat.le_of_ble_eq_true rfl, rfl, rfl⟩ (Nat.le_of_ble_eq_true rfl) rfl ?_
    refine ex_beq rfl (fun h1 => ?_) (fun h1 => ?_)
    · refine ex_st 1 (pc' := 27) (ls' := [(0, xr 143), (1, xi x), (2, xi y), (3, xi w)]) (st' := [xi (-1)]) rfl ?_
      refine ex_reti rfl rfl ?_
      exact ⟨x_req (by first | rfl | omega), _, _, rfl, hR⟩
    · exfalso; omega
  · refine ex_st 1 (pc' := 9) (ls' := [(0, xr 0), (1, xi x), (2, xi y), (3, xi w)]) (st' := [xi y]) rfl ?_
    refine ex_call (ct_G_isThing (by first | omega | (constructor <;> omega) | assumption)) (by decide) rfl ⟨rfl, rfl, rfl⟩ ⟨Nat.le_of_ble_eq_true rfl, rfl, rfl⟩ (Nat.le_of_ble_eq_true rfl) rfl ?_
    refine ex_beq rfl (fun h2 => ?_) (fun h2 => ?_)
    · refine ex_st 1 (pc' := 23) (ls' := [(0, xr 0), (1, xi x), (2, xi y), (3, xi w)]) (st' := [xi (-1)]) rfl ?_
      refine ex_reti rfl rfl ?_
      refine x_CQ.of (M := xM_m_bases) rfl (Nat.le_of_ble_eq_true rfl) ?_
      refine ex_st 2 (pc' := 2) (ls' := [(0, xr 143), (1, xi x), (2, xi y), (3, xi w)]) (st' := [xi x, xr 143]) rfl ?_
      refine ex_call (ct_m_isOfficial2 (c := I 143 0) (by first | omega | (constructor <;> omega) | assumption | ((repeat rw [x_up_far (by omega)]); first | rfl | omega | (constructor <;> omega))) (by (repeat rw [x_up_far (by omega)]); try rfl) (by first | omega | (constructor <;> omega) | assumption | ((repeat rw [x_up_far (by omega)]); first | rfl | omega | (constructor <;> omega)))) (by decide) rfl ⟨rfl, rfl, rfl⟩ ⟨Nat.le_of_ble_eq_true rfl, rfl, rfl⟩ (Nat.le_of_ble_eq_true rfl) rfl ?_
      refine ex_beq rfl (fun h3 => ?_) (fun h3 => ?_)
      · exfalso; omega
      · refine ex_st 2 (pc' := 10) (ls' := [(0, xr 143), (1, xi x), (2, xi y), (3, xi w)]) (st' := [xi y, xr 143]) rfl ?_
        refine ex_call (ct_m_isThing (by first | omega | (constructor <;> omega) | assumption)) (by decide) rfl ⟨rfl, rfl, rfl⟩ ⟨Nat.le_of_ble_eq_true rfl, rfl, rfl⟩ (Nat.le_of_ble_eq_true rfl) rfl ?_
        refine ex_beq rfl (fun h4 => ?_) (fun h4 => ?_)
        · refine ex_st 1 (pc' := 27) (ls' := [(0, xr 143), (1, xi x), (2, xi y), (3, xi w)]) (st' := [xi (-1)]) rfl ?_
          refine ex_reti rfl rfl ?_
          exact ⟨x_req (by first | rfl | omega), _, _, rfl, hR⟩
        · exfalso; omega
    · refine ex_st 1 (pc' := 16) (ls' := [(0, xr 0), (1, xi x), (2, xi y), (3, xi w)]) (st' := [xi w]) rfl ?_
      refine ex_call (ct_G_isZeroOrOne (by first | omega | (constructor <;> omega) | assumption)) (by decide) rfl ⟨rfl, rfl, rfl⟩ ⟨Nat.le_of_ble_eq_true rfl, rfl, rfl⟩ (Nat.le_of_ble_eq_true rfl) rfl ?_
      refine ex_bne rfl (fun h5 => ?_) (fun h5 => ?_)
      · exfalso; omega
      · refine ex_st 1 (pc' := 23) (ls' := [(0, xr 0), (1, xi x), (2, xi y), (3, xi w)]) (st' := [xi (-1)]) rfl ?_
        refine ex_reti rfl rfl ?_
        refine x_CQ.of (M := xM_m_bases) rfl (Nat.le_of_ble_eq_true rfl) ?_
        refine ex_st 2 (pc' := 2) (ls' := [(0, xr 143), (1, xi x), (2, xi y), (3, xi w)]) (st' := [xi x, xr 143]) rfl ?_
        refine ex_call (ct_m_isOfficial2 (c := I 143 0) (by first | omega | (constructor <;> omega) | assumption | ((repeat rw [x_up_far (by omega)]); first | rfl | omega | (constructor <;> omega))) (by (repeat rw [x_up_far (by omega)]); try rfl) (by first | omega | (constructor <;> omega) | assumption | ((repeat rw [x_up_far (by omega)]); first | rfl | omega | (constructor <;> omega)))) (by decide) rfl ⟨rfl, rfl, rfl⟩ ⟨Nat.le_of_ble_eq_true rfl, rfl, rfl⟩ (Nat.le_of_ble_eq_true rfl) rfl ?_
        refine ex_beq rfl (fun h6 => ?_) (fun h6 => ?_)
        · exfalso; omega
        · refine ex_st 2 (pc' := 10) (ls' := [(0, xr 143), (1, xi x), (2, xi y), (3, xi w)]) (st' := [xi y, xr 143]) rfl ?_
          refine ex_call (ct_m_isThing (by first | omega | (constructor <;> omega) | assumption)) (by decide) rfl ⟨rfl, rfl, rfl⟩ ⟨Nat.le_of_ble_eq_true rfl, rfl, rfl⟩ (Nat.le_of_ble_eq_true rfl) rfl ?_
          refine ex_beq rfl (fun h7 => ?_) (fun h7 => ?_)
          · exfalso; omega
          · refine ex_st 4 (pc' := 20) (ls' := [(0, xr 143), (1, xi x), (2, xi y), (3, xi w)]) (st' := [xi 1, xi 0, xi w, xr 143]) rfl ?_
            refine ex_call (ct_m_in (by first | omega | (constructor <;> omega) | assumption) (by first | omega | (constructor <;> omega) | assumption) (by first | omega | (constructor <;> omega) | assumption)) (by decide) rfl ⟨rfl, rfl, rfl⟩ ⟨Nat.le_of_ble_eq_true rfl, rfl, rfl⟩ (Nat.le_of_ble_eq_true rfl) rfl ?_
            refine ex_bne rfl (fun h8 => ?_) (fun h8 => ?_)
            · exfalso; omega
            · refine ex_st 1 (pc' := 27) (ls' := [(0, xr 143), (1, xi x), (2, xi y), (3, xi w)]) (st' := [xi (-1)]) rfl ?_
              refine ex_reti rfl rfl ?_
              exact ⟨x_req (by first | rfl | omega), _, _, rfl, hR⟩
theorem op_can {sc : List Int} {I : Nat → Nat → Int} {L : Nat → Nat → Int64} (hR : Rl I L) {x w : Int} (hx : x_R x) (hw : x_R w) : x_PQ sc xN_G_can [xr 0, xi x, xi w] xN_m_can [xr 143, xi x, xi w] (xSH, I, L) := by
  by_cases h : (0 ≤ x ∧ x < I 1 1) ∧ (w = 0 ∨ w = 1)
  · obtain ⟨⟨h1, h2⟩, h3⟩ := h
    obtain ⟨p, rfl⟩ := Int.eq_ofNat_of_zero_le h1
    rcases h3 with rfl | rfl
    · exact op_can_0 hR h2
    · exact op_can_1 hR h2
  · exact op_can_x hR hx hw h
theorem op_bases {sc : List Int} {I : Nat → Nat → Int} {L : Nat → Nat → Int64} (hR : Rl I L) {x y w : Int} (hx : x_R x) (hy : x_R y) (hw : x_R w) : x_PQ sc xN_G_bases [xr 0, xi x, xi y, xi w] xN_m_bases [xr 143, xi x, xi y, xi w] (xSH, I, L) := by
  by_cases h : (0 ≤ x ∧ x < I 1 1) ∧ (0 ≤ y ∧ y < 5) ∧ (w = 0 ∨ w = 1)
  · obtain ⟨⟨h1, h2⟩, ⟨h4, h5⟩, h3⟩ := h
    obtain ⟨p, rfl⟩ := Int.eq_ofNat_of_zero_le h1
    obtain ⟨q, rfl⟩ := Int.eq_ofNat_of_zero_le h4
    rcases h3 with rfl | rfl
    · exact op_bases_0 hR h2 (by omega)
    · exact op_bases_1 hR h2 (by omega)
  · exact op_bases_x hR hx hy hw h
