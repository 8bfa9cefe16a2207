/-! the class's reader: E and S -/
def FRr (T : Nat) (I I' : Nat → Nat → Int) : Prop := ∀ k j, ¬ ((k = 85 ∧ j = 2) ∨ (k = T ∧ j = 5) ∨ k = T + 3) → I' k j = I k j
theorem TXc.frr {I I' : Nat → Nat → Int} {n : Nat} {tx : Nat → Nat} {T : Nat} (h : TXc I n tx) (f : FRr T I I') (hT4 : 104 ≤ T) : TXc I' n tx := h.fr (f _ _ (by omega)) (fun j => f _ _ (by omega))
/-- S as the class reads it -/
def RSC (sc : List Int) (L : Nat → Nat → Int64) (n : Nat) (tx : Nat → Nat) (T : Nat) (S : Nat → PR) (w : Int) (D : Nat) : Prop := ∀ (a : Nat) (I : Nat → Nat → Int) (cs : List Int), TXc I n tx → I 85 2 = (a : Int) → a ≤ n → CD I T cs → cs.length ≤ a → x_CQ sc D xN_R_readSingle [xr 85, xr T, xi w] (xSH, I, L) (fun r m' => RPo I L T cs (S a) r m')
theorem lp_RT {sc : List Int} {L : Nat → Nat → Int64} {n : Nat} {tx : Nat → Nat} {T : Nat} {S : Nat → PR} {w : Int} {D : Nat} (hS : RSC sc L n tx T S w D) (hSb : ∀ a, a ≤ n → PB n a (S a)) (hTS : TS T) (hT4 : 104 ≤ T) (hD : 2 ≤ D) {Q : Option xPV → xMem → Prop} {cs : List Int} {p : Int} (j : Nat) (hj : j ≤ 100) (a : Nat) (c : List Int) (I : Nat → Nat → Int) (hT : TXc I n tx) (ha : I 85 2 = (a : Int)) (han : a ≤ n) (hC : CD I T (cs ++ c)) (hl : (cs ++ c).length ≤ a)
    (kk : ∀ I' : Nat → Nat → Int, (p_T n tx S (100 - j) a c).2.2 = true → TXc I' n tx → I' 85 2 = (((p_T n tx S (100 - j) a c).1 : Nat) : Int) → CD I' T (cs ++ (p_T n tx S (100 - j) a c).2.1) → FRr T I I' → x_Ex sc D xM_R_readEither 61 [(3, xi p), (0, xr 85), (1, xr T), (2, xi w)] [] (xSH, I', L) Q)
    (kf : ∀ I' : Nat → Nat → Int, (p_T n tx S (100 - j) a c).2.2 = false → I' 85 2 = (((p_T n tx S (100 - j) a c).1 : Nat) : Int) → FRr T I I' → Q (some (xi 0)) (xSH, I', L)) :
    x_Ex sc D xM_R_readEither 22 [(4, xi (↑j)), (3, xi p), (0, xr 85), (1, xr T), (2, xi w)] [] (xSH, I, L) Q := by
  have hn := hT.2.1
  have hlt := hTS.2.2.2.2
  refine ex_st 2 (pc' := 26) (ls' := [(4, xi (↑j)), (3, xi p), (0, xr 85), (1, xr T), (2, xi w)]) (st' := [xi 100, xi (↑j)]) rfl ?_
  refine ex_ic rfl (by constructor <;> omega) (by decide) (fun (h0 : (100 : Int) ≤ (↑j : Int)) => ?_) (fun (h0 : ¬ (100 : Int) ≤ (↑j : Int)) => ?_)
  · obtain rfl : j = 100 := by omega
    exact ex_pm _ (fun i => by rcases i with _ | _ | _ | _ | _ | _ | _ | _ | _ | i <;> first | (right; rfl) | (left; rfl)) (kk I rfl hT ha hC (fun _ _ _ => rfl))
  · have hf : 100 - j = (100 - (j + 1)) + 1 := by omega
    refine ex_st 2 (pc' := 32) (ls' := [(4, xi (↑j)), (3, xi p), (0, xr 85), (1, xr T), (2, xi w)]) (st' := [xi 38, xr 85]) rfl ?_
    by_cases h1 : pg n tx a = 38
    · have hag := pg_lt (n := n) (tx := tx) (a := a) (by omega)
      refine ex_callQ (ct_R_skip_y (L := L) hT ha han (c := 38) (by decide) h1) (by omega) rfl ⟨rfl, rfl, rfl⟩ ⟨Nat.le_of_ble_eq_true rfl, rfl, rfl⟩ (Nat.le_of_ble_eq_true rfl) rfl (fun ra m2 hQ => ?_)
      obtain ⟨rfl, I1, rfl, a1, f1⟩ := hQ
      refine ex_st 1 (pc' := 38) (ls' := [(4, xi (↑j)), (3, xi p), (0, xr 85), (1, xr T), (2, xi w)]) (st' := []) rfl ?_
      refine ex_st 3 (pc' := 41) (ls' := [(4, xi (↑j)), (3, xi p), (0, xr 85), (1, xr T), (2, xi w)]) (st' := [xi w, xr T, xr 85]) rfl ?_
      have T1 : TXc I1 n tx := hT.fr (f1 _ _ (by omega)) (fun j => f1 _ _ (by omega))
      have C1 : CD I1 T (cs ++ c) := hC.fr (f1 _ _ (by omega)) (fun j => f1 _ _ (by omega))
      refine ex_callQ (hS (a + 1) I1 (cs ++ c) T1 a1 hag C1 (by omega)) (Nat.le_refl _) rfl ⟨rfl, rfl, rfl⟩ ⟨Nat.le_of_ble_eq_true rfl, rfl, rfl⟩ (Nat.le_of_ble_eq_true rfl) rfl (fun ra m2 hQ => ?_)
      obtain ⟨rfl, I2, rfl, a2, C2, f2⟩ := hQ
      have hb := hSb (a + 1) hag
      have e : p_T n tx S (100 - j) a c = if (S (a + 1)).2.2 = true then p_T n tx S (100 - (j + 1)) (S (a + 1)).1 (c ++ (S (a + 1)).2.1 ++ [-2]) else ((S (a + 1)).1, [], false) := by rw [hf]; simp only [p_T]; rw [if_pos h1]
      have f12 : FRr T I I2 := fun k j hk => by rw [f2 k j hk, f1 k j (by omega)]
      refine ex_bne rfl (fun h2 => ?_) (fun h2 => ?_)
      · rw [if_pos h2] at e
        have hb2 := hb.2.2 h2
        have hb3 := hb.2.1
        refine ex_st 2 (pc' := 52) (ls' := [(4, xi (↑j)), (3, xi p), (0, xr 85), (1, xr T), (2, xi w)]) (st' := [xi (-2), xr T]) rfl ?_
        have hlen : ((cs ++ c) ++ (S (a + 1)).2.1).length = (cs ++ c).length + (S (a + 1)).2.1.length := List.length_append
        refine ex_callQ (ct_addC (L := L) hTS (C2 h2) (by omega)) (by omega) rfl ⟨rfl, rfl, rfl⟩ ⟨Nat.le_of_ble_eq_true rfl, rfl, rfl⟩ (Nat.le_of_ble_eq_true rfl) (x_recv_v (by omega) hTS.1 (by decide)) (fun ra m2 hQ => ?_)
        obtain ⟨rfl, I3, rfl, C3, f3⟩ := hQ
        refine ex_st 2 (pc' := 22) (ls' := [(4, xi (↑j + 1)), (3, xi p), (0, xr 85), (1, xr T), (2, xi w)]) (st' := []) rfl ?_
        have f13 : FRr T I I3 := fun k j hk => by rw [f3 k j (by omega) (by omega), f12 k j hk]
        have T3 := hT.frr f13 hT4
        have happ : cs ++ (c ++ (S (a + 1)).2.1 ++ [-2]) = cs ++ c ++ (S (a + 1)).2.1 ++ [-2] := by simp [List.append_assoc]
        refine lp_RT hS hSb hTS hT4 hD (j + 1) (by omega) (S (a + 1)).1 (c ++ (S (a + 1)).2.1 ++ [-2]) I3 T3 (by rw [f3 _ _ (by omega) (by omega)]; exact a2) hb.2.1 (by rw [happ]; exact C3) (by rw [happ, List.length_append, hlen]; show _ + 1 ≤ _; omega) (fun I' g1 g2 g3 g4 g5 => ?_) (fun I' g1 g2 g3 => ?_)
        · rw [← e] at g1 g3 g4
          exact kk I' g1 g2 g3 g4 (fun k j hk => by rw [g5 k j hk, f13 k j hk])
        · rw [← e] at g1 g2
          exact kf I' g1 g2 (fun k j hk => by rw [g3 k j hk, f13 k j hk])
      · rw [if_neg h2] at e
        refine ex_st 1 (pc' := 48) (ls' := [(4, xi (↑j)), (3, xi p), (0, xr 85), (1, xr T), (2, xi w)]) (st' := [xi 0]) rfl ?_
        refine ex_retz rfl (Or.inl rfl) rfl ?_
        exact kf I2 (by rw [e]) (by rw [e]; exact a2) f12
    · refine ex_call (ct_R_skip_n (L := L) hT ha han (c := 38) (by decide) h1) (by omega) rfl ⟨rfl, rfl, rfl⟩ ⟨Nat.le_of_ble_eq_true rfl, rfl, rfl⟩ (Nat.le_of_ble_eq_true rfl) rfl ?_
      refine ex_st 1 (pc' := 61) (ls' := [(4, xi (↑j)), (3, xi p), (0, xr 85), (1, xr T), (2, xi w)]) (st' := []) rfl ?_
      have e : p_T n tx S (100 - j) a c = (a, c, true) := by rw [hf]; simp only [p_T]; rw [if_neg h1]
      exact ex_pm _ (fun i => by rcases i with _ | _ | _ | _ | _ | _ | _ | _ | _ | i <;> first | (right; rfl) | (left; rfl)) (kk I (by rw [e]) hT (by rw [e]; exact ha) (by rw [e]; exact hC) (fun _ _ _ => rfl))
termination_by 100 - j
decreasing_by all_goals omega
theorem lp_RE {sc : List Int} {L : Nat → Nat → Int64} {n : Nat} {tx : Nat → Nat} {T : Nat} {S : Nat → PR} {w : Int} {D : Nat} (hS : RSC sc L n tx T S w D) (hSb : ∀ a, a ≤ n → PB n a (S a)) (hTS : TS T) (hT4 : 104 ≤ T) (hD : 2 ≤ D) {Q : Option xPV → xMem → Prop} {cs : List Int} (p : Nat) (hp : p ≤ 101) (a : Nat) (c : List Int) (I : Nat → Nat → Int) (hT : TXc I n tx) (ha : I 85 2 = (a : Int)) (han : a ≤ n) (hC : CD I T (cs ++ c)) (hl : (cs ++ c).length + (if decide (0 < p) = true then 1 else 0) ≤ a)
    (kk : ∀ I' : Nat → Nat → Int, (p_E n tx S (101 - p) (decide (0 < p)) a c).2.2 = true → I' 85 2 = (((p_E n tx S (101 - p) (decide (0 < p)) a c).1 : Nat) : Int) → CD I' T (cs ++ (p_E n tx S (101 - p) (decide (0 < p)) a c).2.1) → FRr T I I' → Q (some (xi 1)) (xSH, I', L))
    (kf : ∀ I' : Nat → Nat → Int, (p_E n tx S (101 - p) (decide (0 < p)) a c).2.2 = false → I' 85 2 = (((p_E n tx S (101 - p) (decide (0 < p)) a c).1 : Nat) : Int) → FRr T I I' → Q (some (xi 0)) (xSH, I', L)) :
    x_Ex sc D xM_R_readEither 2 [(3, xi (↑p)), (0, xr 85), (1, xr T), (2, xi w)] [] (xSH, I, L) Q := by
  have hn := hT.2.1
  have hlt := hTS.2.2.2.2
  refine ex_st 2 (pc' := 5) (ls' := [(3, xi (↑p)), (0, xr 85), (1, xr T), (2, xi w)]) (st' := [xi 100, xi (↑p)]) rfl ?_
  refine ex_ic rfl (by constructor <;> omega) (by decide) (fun (h0 : (100 : Int) < (↑p : Int)) => ?_) (fun (h0 : ¬ (100 : Int) < (↑p : Int)) => ?_)
  · obtain rfl : p = 101 := by omega
    refine ex_st 1 (pc' := 89) (ls' := [(3, xi (↑101)), (0, xr 85), (1, xr T), (2, xi w)]) (st' := [xi 0]) rfl ?_
    refine ex_retz rfl (Or.inl rfl) rfl ?_
    exact kf I rfl ha (fun _ _ _ => rfl)
  · have hf : 101 - p = (101 - (p + 1)) + 1 := by omega
    have hl0 : (cs ++ c).length ≤ a := by omega
    refine ex_st 3 (pc' := 11) (ls' := [(3, xi (↑p)), (0, xr 85), (1, xr T), (2, xi w)]) (st' := [xi w, xr T, xr 85]) rfl ?_
    refine ex_callQ (hS a I (cs ++ c) hT ha han hC hl0) (Nat.le_refl _) rfl ⟨rfl, rfl, rfl⟩ ⟨Nat.le_of_ble_eq_true rfl, rfl, rfl⟩ (Nat.le_of_ble_eq_true rfl) rfl (fun ra m2 hQ => ?_)
    obtain ⟨rfl, I1, rfl, a1, C1, f1⟩ := hQ
    have hb := hSb a han
    have e : p_E n tx S (101 - p) (decide (0 < p)) a c = p_E n tx S ((101 - (p + 1)) + 1) (decide (0 < p)) a c := by rw [hf]
    simp only [p_E] at e
    refine ex_bne rfl (fun h2 => ?_) (fun h2 => ?_)
    · rw [if_pos h2] at e
      have hb2 := hb.2.2 h2
      have hlen : ((cs ++ c) ++ (S a).2.1).length = (cs ++ c).length + (S a).2.1.length := List.length_append
      have happ : cs ++ (c ++ (S a).2.1) = cs ++ c ++ (S a).2.1 := by simp [List.append_assoc]
      refine ex_st 2 (pc' := 22) (ls' := [(4, xi 0), (3, xi (↑p)), (0, xr 85), (1, xr T), (2, xi w)]) (st' := []) rfl ?_
      refine lp_RT hS hSb hTS hT4 hD (cs := cs) (p := (p : Int)) 0 (by decide) (S a).1 (c ++ (S a).2.1) I1 (hT.frr f1 hT4) a1 hb.2.1 (by rw [happ]; exact C1 h2) (by rw [happ, hlen]; omega) (fun I2 g1 g2 g3 g4 g5 => ?_) (fun I2 g1 g2 g3 => ?_)
      · have ht := p_T_bd (tx := tx) hSb 100 (S a).1 (c ++ (S a).2.1) hb.2.1
        rw [show 100 - 0 = 100 from rfl] at g1 g3 g4
        generalize p_T n tx S 100 (S a).1 (c ++ (S a).2.1) = t at e g1 g3 g4 ht
        rw [if_pos g1] at e
        have ht2 := ht.2.2 g1
        have hc9 : (c ++ (S a).2.1).length = c.length + (S a).2.1.length := List.length_append
        have hc8 : (cs ++ c).length = cs.length + c.length := List.length_append
        have hc7 : (cs ++ t.2.1).length = cs.length + t.2.1.length := List.length_append
        have f12 : FRr T I I2 := fun k j hk => by rw [g5 k j hk, f1 k j hk]
        have hor := p_or_len (decide (0 < p)) t.2.1
        have hc6 : (cs ++ p_or (decide (0 < p)) t.2.1).length = cs.length + (p_or (decide (0 < p)) t.2.1).length := List.length_append
        have tail : ∀ I3 : Nat → Nat → Int, TXc I3 n tx → I3 85 2 = ((t.1 : Nat) : Int) → CD I3 T (cs ++ p_or (decide (0 < p)) t.2.1) → FRr T I I3 → x_Ex sc D xM_R_readEither 71 [(3, xi (↑p)), (0, xr 85), (1, xr T), (2, xi w)] [] (xSH, I3, L) Q := by
          intro I3 T3 a3 C3 f3
          refine ex_st 2 (pc' := 74) (ls' := [(3, xi (↑p)), (0, xr 85), (1, xr T), (2, xi w)]) (st' := [xi 124, xr 85]) rfl ?_
          by_cases h3 : pg n tx t.1 = 124
          · have hag := pg_lt (n := n) (tx := tx) (a := t.1) (by omega)
            rw [if_pos h3] at e
            refine ex_callQ (ct_R_skip_y (L := L) T3 a3 ht.2.1 (c := 124) (by decide) h3) (by omega) rfl ⟨rfl, rfl, rfl⟩ ⟨Nat.le_of_ble_eq_true rfl, rfl, rfl⟩ (Nat.le_of_ble_eq_true rfl) rfl (fun ra m2 hQ => ?_)
            obtain ⟨rfl, I4, rfl, a4, f4⟩ := hQ
            refine ex_st 1 (pc' := 82) (ls' := [(3, xi (↑p)), (0, xr 85), (1, xr T), (2, xi w)]) (st' := []) rfl ?_
            refine ex_st 2 (pc' := 2) (ls' := [(3, xi (↑p + 1)), (0, xr 85), (1, xr T), (2, xi w)]) (st' := []) rfl ?_
            have f14 : FRr T I I4 := fun k j hk => by rw [f4 k j (by omega), f3 k j hk]
            have hd1 : decide (0 < p + 1) = true := decide_eq_true (by omega)
            refine lp_RE hS hSb hTS hT4 hD (p + 1) (by omega) (t.1 + 1) (p_or (decide (0 < p)) t.2.1) I4 (hT.frr f14 hT4) a4 hag (C3.fr (f4 _ _ (by omega)) (fun j => f4 _ _ (by omega))) (by rw [if_pos hd1]; omega) (fun I' q1 q2 q3 q4 => ?_) (fun I' q1 q2 q3 => ?_)
            · rw [hd1, ← e] at q1 q2 q3
              exact kk I' q1 q2 q3 (fun k j hk => by rw [q4 k j hk, f14 k j hk])
            · rw [hd1, ← e] at q1 q2
              exact kf I' q1 q2 (fun k j hk => by rw [q3 k j hk, f14 k j hk])
          · rw [if_neg h3] at e
            refine ex_call (ct_R_skip_n (L := L) T3 a3 ht.2.1 (c := 124) (by decide) h3) (by omega) rfl ⟨rfl, rfl, rfl⟩ ⟨Nat.le_of_ble_eq_true rfl, rfl, rfl⟩ (Nat.le_of_ble_eq_true rfl) rfl ?_
            refine ex_st 1 (pc' := 80) (ls' := [(3, xi (↑p)), (0, xr 85), (1, xr T), (2, xi w)]) (st' := []) rfl ?_
            refine ex_st 1 (pc' := 81) (ls' := [(3, xi (↑p)), (0, xr 85), (1, xr T), (2, xi w)]) (st' := [xi 1]) rfl ?_
            refine ex_retz rfl (Or.inr rfl) rfl ?_
            exact kk I3 (by rw [e]) (by rw [e]; exact a3) (by rw [e]; exact C3) f3
        refine ex_st 1 (pc' := 62) (ls' := [(3, xi (↑p)), (0, xr 85), (1, xr T), (2, xi w)]) (st' := [xi (↑p)]) rfl ?_
        refine ex_if rfl (by constructor <;> omega) (fun (h4 : (↑p : Int) ≤ 0) => ?_) (fun (h4 : ¬ (↑p : Int) ≤ 0) => ?_)
        · have hd0 : p_or (decide (0 < p)) t.2.1 = t.2.1 := by unfold p_or; rw [if_neg (by simp; omega)]
          exact tail I2 g2 g3 (by rw [hd0]; exact g4) f12
        · have hdp : decide (0 < p) = true := decide_eq_true (by omega)
          have hd0 : p_or (decide (0 < p)) t.2.1 = t.2.1 ++ [-3] := by unfold p_or; rw [if_pos hdp]
          rw [if_pos hdp] at hl
          refine ex_st 2 (pc' := 68) (ls' := [(3, xi (↑p)), (0, xr 85), (1, xr T), (2, xi w)]) (st' := [xi (-3), xr T]) rfl ?_
          refine ex_callQ (ct_addC (L := L) hTS g4 (by omega)) (by omega) rfl ⟨rfl, rfl, rfl⟩ ⟨Nat.le_of_ble_eq_true rfl, rfl, rfl⟩ (Nat.le_of_ble_eq_true rfl) (x_recv_v (by omega) hTS.1 (by decide)) (fun ra m2 hQ => ?_)
          obtain ⟨rfl, I3, rfl, C3, f3⟩ := hQ
          have f13 : FRr T I I3 := fun k j hk => by rw [f3 k j (by omega) (by omega), f12 k j hk]
          refine tail I3 (hT.frr f13 hT4) (by rw [f3 _ _ (by omega) (by omega)]; exact g3) (by rw [hd0, ← List.append_assoc]; exact C3) f13
      · rw [show 100 - 0 = 100 from rfl] at g1 g2
        rw [if_neg (by rw [g1]; decide)] at e
        exact kf I2 (by rw [e]) (by rw [e]; exact g2) (fun k j hk => by rw [g3 k j hk, f1 k j hk])
    · rw [if_neg h2] at e
      refine ex_st 1 (pc' := 18) (ls' := [(3, xi (↑p)), (0, xr 85), (1, xr T), (2, xi w)]) (st' := [xi 0]) rfl ?_
      refine ex_retz rfl (Or.inl rfl) rfl ?_
      exact kf I1 (by rw [e]) (by rw [e]; exact a1) f1
termination_by 101 - p
decreasing_by all_goals omega
theorem ct_R_readEither {sc : List Int} {L : Nat → Nat → Int64} {n : Nat} {tx : Nat → Nat} {T : Nat} {S : Nat → PR} {w : Int} {D : Nat} (hS : RSC sc L n tx T S w D) (hSb : ∀ a, a ≤ n → PB n a (S a)) (hTS : TS T) (hT4 : 104 ≤ T) (hD : 2 ≤ D) {cs : List Int} {a : Nat} {I : Nat → Nat → Int} (hT : TXc I n tx) (ha : I 85 2 = (a : Int)) (han : a ≤ n) (hC : CD I T cs) (hl : cs.length ≤ a) : x_CQ sc (D + 1) xN_R_readEither [xr 85, xr T, xi w] (xSH, I, L) (fun r m' => RPo I L T cs (p_E n tx S 101 false a []) r m') := by
  refine x_CQ.of (M := xM_R_readEither) rfl (Nat.le_of_ble_eq_true rfl) ?_
  refine ex_st 2 (pc' := 2) (ls' := [(3, xi 0), (0, xr 85), (1, xr T), (2, xi w)]) (st' := []) rfl ?_
  refine lp_RE hS hSb hTS hT4 hD (cs := cs) 0 (by decide) a [] I hT ha han (by rw [List.append_nil]; exact hC) (by rw [List.append_nil]; exact hl) (fun I' q1 q2 q3 q4 => ?_) (fun I' q1 q2 q3 => ?_)
  · exact ⟨by unfold x_b; rw [if_pos (show (p_E n tx S 101 false a []).2.2 = true from q1)], I', rfl, q2, fun _ => q3, q4⟩
  · have q1' : (p_E n tx S 101 false a []).2.2 = false := q1
    exact ⟨by unfold x_b; rw [if_neg (by rw [q1']; decide)], I', rfl, q2, (fun q => by rw [q1'] at q; cases q), q3⟩

theorem RSC.zero {sc : List Int} {L : Nat → Nat → Int64} {n : Nat} {tx : Nat → Nat} {T : Nat} (hTS : TS T) (hT4 : 104 ≤ T)  : RSC sc L n tx T (p_S n tx 0) 4 12 := by
  intro a I cs hT ha han hC hl
  have hn := hT.2.1
  have hlt := hTS.2.2.2.2
  have h128 := hT.lt a
  refine x_CQ.of (M := xM_R_readSingle) rfl (Nat.le_of_ble_eq_true rfl) ?_
  refine ex_st 3 (pc' := 5) (ls' := [(0, xr 85), (1, xr T), (2, xi 4)]) (st' := [xi (I 85 2), xr 85]) rfl ?_
  rw [ha]
  refine ex_call (ct_R_signAt (L := L) hT (p := a) (by omega)) (by omega) rfl ⟨rfl, rfl, rfl⟩ ⟨Nat.le_of_ble_eq_true rfl, rfl, rfl⟩ (Nat.le_of_ble_eq_true rfl) rfl ?_
  obtain ⟨s, hs⟩ : ∃ s, s = pg n tx a := ⟨_, rfl⟩
  rw [← hs]
  rw [← hs] at h128
  have test : s ≠ 33 → s ≠ 40 → p_S n tx 0 a = p_test n tx a := fun g1 g2 => by
    simp only [p_S]; rw [if_neg (by omega)]
  have at27 : (s = 33 ∨ s = 40) → x_Ex sc 11 xM_R_readSingle 27 [(3, xi (↑s)), (0, xr 85), (1, xr T), (2, xi 4)] [] (xSH, I, L) (fun r m' => RPo I L T cs (p_S n tx 0 a) r m') := by
    intro hor
    refine ex_st 2 (pc' := 29) (ls' := [(3, xi (↑s)), (0, xr 85), (1, xr T), (2, xi 4)]) (st' := [xi 4, xi 4]) rfl ?_
    refine ex_st 1 (pc' := 32) (ls' := [(3, xi (↑s)), (0, xr 85), (1, xr T), (2, xi 4)]) (st' := []) rfl ?_
    refine ex_st 1 (pc' := 33) (ls' := [(3, xi (↑s)), (0, xr 85), (1, xr T), (2, xi 4)]) (st' := [xi 0]) rfl ?_
    refine ex_retz rfl (Or.inl rfl) rfl ?_
    have e : p_S n tx 0 a = (a, [], false) := by simp only [p_S]; rw [if_pos (by omega)]
    rw [e]
    exact ⟨rfl, I, rfl, ha, (fun q => by cases q), fun _ _ _ => rfl⟩
  refine ex_st 3 (pc' := 12) (ls' := [(3, xi (↑s)), (0, xr 85), (1, xr T), (2, xi 4)]) (st' := [xi 33, xi (↑s)]) rfl ?_
  refine ex_ic rfl (by constructor <;> omega) (by decide) (fun (h0 : (↑s : Int) = 33) => ?_) (fun (h0 : ¬ (↑s : Int) = 33) => ?_)
  · exact at27 (by omega)
  · refine ex_st 2 (pc' := 18) (ls' := [(3, xi (↑s)), (0, xr 85), (1, xr T), (2, xi 4)]) (st' := [xi 40, xi (↑s)]) rfl ?_
    refine ex_ic rfl (by constructor <;> omega) (by decide) (fun (h1 : (↑s : Int) = 40) => ?_) (fun (h1 : ¬ (↑s : Int) = 40) => ?_)
    · exact at27 (by omega)
    · refine ex_st 2 (pc' := 23) (ls' := [(3, xi (↑s)), (0, xr 85), (1, xr T), (2, xi 4)]) (st' := [xr T, xr 85]) rfl ?_
      refine ex_callQ (ct_R_readTest (L := L) hT ha han hTS hT4 hC hl) (by omega) rfl ⟨rfl, rfl, rfl⟩ ⟨Nat.le_of_ble_eq_true rfl, rfl, rfl⟩ (Nat.le_of_ble_eq_true rfl) rfl (fun ra m2 hQ => ?_)
      rw [test (by omega) (by omega)]
      obtain ⟨rfl, hQ2⟩ := hQ
      refine ex_retz rfl (x_b01 _) rfl ?_
      exact ⟨rfl, hQ2⟩

theorem RSC.succ {sc : List Int} {L : Nat → Nat → Int64} {n : Nat} {tx : Nat → Nat} {T : Nat} (hTS : TS T) (hT4 : 104 ≤ T) {k : Nat} {w : Int} {D : Nat} (hw : 0 ≤ w ∧ w < 4) (hD : 11 ≤ D) (hS : RSC sc L n tx T (p_S n tx k) (w + 1) D) : RSC sc L n tx T (p_S n tx (k + 1)) w (D + 2) := by
  intro a I cs hT ha han hC hl
  have hn := hT.2.1
  have hlt := hTS.2.2.2.2
  have h128 := hT.lt a
  refine x_CQ.of (M := xM_R_readSingle) rfl (Nat.le_of_ble_eq_true rfl) ?_
  refine ex_st 3 (pc' := 5) (ls' := [(0, xr 85), (1, xr T), (2, xi w)]) (st' := [xi (I 85 2), xr 85]) rfl ?_
  rw [ha]
  refine ex_call (ct_R_signAt (L := L) hT (p := a) (by omega)) (by omega) rfl ⟨rfl, rfl, rfl⟩ ⟨Nat.le_of_ble_eq_true rfl, rfl, rfl⟩ (Nat.le_of_ble_eq_true rfl) rfl ?_
  obtain ⟨s, hs⟩ : ∃ s, s = pg n tx a := ⟨_, rfl⟩
  rw [← hs]
  rw [← hs] at h128
  have test : s ≠ 33 → s ≠ 40 → p_S n tx (k + 1) a = p_test n tx a := fun g1 g2 => by
    simp only [p_S]; rw [if_neg (by omega), if_neg (by omega)]
  have at27 : (s = 33 ∨ s = 40) → x_Ex sc (D + 1) xM_R_readSingle 27 [(3, xi (↑s)), (0, xr 85), (1, xr T), (2, xi w)] [] (xSH, I, L) (fun r m' => RPo I L T cs (p_S n tx (k + 1) a) r m') := by
    intro hor
    have hag := pg_lt (n := n) (tx := tx) (a := a) (by omega)
    refine ex_st 2 (pc' := 29) (ls' := [(3, xi (↑s)), (0, xr 85), (1, xr T), (2, xi w)]) (st' := [xi 4, xi w]) rfl ?_
    refine ex_ic rfl (by constructor <;> omega) (by decide) (fun (h0 : w < 4) => ?_) (fun (h0 : ¬ w < 4) => by exfalso; exact h0 hw.2)
    refine ex_st 3 (pc' := 39) (ls' := [(3, xi (↑s)), (0, xr 85), (1, xr T), (2, xi w)]) (st' := [xi (I 85 2), xr 85]) rfl ?_
    rw [ha]
    refine ex_st 2 (pc' := 41) (ls' := [(3, xi (↑s)), (0, xr 85), (1, xr T), (2, xi w)]) (st' := [xi (↑a + 1), xr 85]) rfl ?_
    refine ex_pfi rfl (by decide) (rfl : xSH[85]? = some _) (by decide) rfl (by decide) (fun h => by cases h) ?_
    generalize hM : x_up I 85 2 (↑a + 1) = I1
    have a1 : I1 85 2 = ((a + 1 : Nat) : Int) := by rw [← hM, x_up_at]; rfl
    have f1 : ∀ k j, ¬ (k = 85 ∧ j = 2) → I1 k j = I k j := fun k j hk => by rw [← hM]; exact x_up_far hk
    have T1 : TXc I1 n tx := hT.fr (f1 _ _ (by omega)) (fun j => f1 _ _ (by omega))
    have C1 : CD I1 T cs := hC.fr (f1 _ _ (by omega)) (fun j => f1 _ _ (by omega))
    have hSb : ∀ a, a ≤ n → PB n a (p_S n tx k a) := p_S_bd k
    refine ex_st 2 (pc' := 47) (ls' := [(3, xi (↑s)), (0, xr 85), (1, xr T), (2, xi w)]) (st' := [xi 40, xi (↑s)]) rfl ?_
    refine ex_ic rfl (by constructor <;> omega) (by decide) (fun (h1 : ¬ (↑s : Int) = 40) => ?_) (fun (h1 : ¬ ¬ (↑s : Int) = 40) => ?_)
    · have e : p_S n tx (k + 1) a = if (p_S n tx k (a + 1)).2.2 = true then ((p_S n tx k (a + 1)).1, (p_S n tx k (a + 1)).2.1 ++ [-1], true) else ((p_S n tx k (a + 1)).1, [], false) := by simp only [p_S]; rw [if_neg (by omega), if_pos (by omega)]
      refine ex_st 5 (pc' := 81) (ls' := [(3, xi (↑s)), (0, xr 85), (1, xr T), (2, xi w)]) (st' := [xi (w + 1), xr T, xr 85]) rfl ?_
      refine ex_callQ (hS (a + 1) I1 cs T1 a1 hag C1 (by omega)) (by omega) rfl ⟨rfl, rfl, rfl⟩ ⟨Nat.le_of_ble_eq_true rfl, rfl, rfl⟩ (Nat.le_of_ble_eq_true rfl) rfl (fun ra m2 hQ => ?_)
      obtain ⟨rfl, I2, rfl, a2, C2, f2⟩ := hQ
      have f12 : FRr T I I2 := fun k j hk => by rw [f2 k j hk, f1 k j (by omega)]
      have hb := hSb (a + 1) hag
      refine ex_bne rfl (fun h2 => ?_) (fun h2 => ?_)
      · rw [if_pos h2] at e
        have hb2 := hb.2.2 h2
        have hlen : (cs ++ (p_S n tx k (a + 1)).2.1).length = cs.length + (p_S n tx k (a + 1)).2.1.length := List.length_append
        refine ex_st 2 (pc' := 91) (ls' := [(3, xi (↑s)), (0, xr 85), (1, xr T), (2, xi w)]) (st' := [xi (-1), xr T]) rfl ?_
        have hb3 := hb.2.1
        refine ex_callQ (ct_addC (L := L) hTS (C2 h2) (by omega)) (by omega) rfl ⟨rfl, rfl, rfl⟩ ⟨Nat.le_of_ble_eq_true rfl, rfl, rfl⟩ (Nat.le_of_ble_eq_true rfl) (x_recv_v (by omega) hTS.1 (by decide)) (fun ra m2 hQ => ?_)
        obtain ⟨rfl, I3, rfl, C3, f3⟩ := hQ
        refine ex_st 1 (pc' := 95) (ls' := [(3, xi (↑s)), (0, xr 85), (1, xr T), (2, xi w)]) (st' := [xi 1]) rfl ?_
        refine ex_retz rfl (Or.inr rfl) rfl ?_
        rw [e]
        exact ⟨rfl, I3, rfl, by rw [f3 _ _ (by omega) (by omega)]; exact a2, fun _ => by show CD I3 T (cs ++ ((p_S n tx k (a + 1)).2.1 ++ [-1])); rw [← List.append_assoc]; exact C3, fun k j hk => by rw [f3 k j (by omega) (by omega), f12 k j hk]⟩
      · rw [if_neg h2] at e
        refine ex_st 1 (pc' := 88) (ls' := [(3, xi (↑s)), (0, xr 85), (1, xr T), (2, xi w)]) (st' := [xi 0]) rfl ?_
        refine ex_retz rfl (Or.inl rfl) rfl ?_
        rw [e]
        exact ⟨rfl, I2, rfl, a2, (fun q => by cases q), f12⟩
    · have h1' : s = 40 := by omega
      have e : p_S n tx (k + 1) a = p_S n tx (k + 1) a := rfl
      have e : p_S n tx (k + 1) a = (if (p_E n tx (p_S n tx k) 101 false (a + 1) []).2.2 = true then (if pg n tx (p_E n tx (p_S n tx k) 101 false (a + 1) []).1 = 41 then ((p_E n tx (p_S n tx k) 101 false (a + 1) []).1 + 1, (p_E n tx (p_S n tx k) 101 false (a + 1) []).2.1, true) else ((p_E n tx (p_S n tx k) 101 false (a + 1) []).1, [], false)) else ((p_E n tx (p_S n tx k) 101 false (a + 1) []).1, [], false)) := by
        rw [p_S]; rw [if_pos (by omega)]
      have hb := p_E_bd (tx := tx) hSb 101 false (a + 1) [] hag
      refine ex_st 5 (pc' := 55) (ls' := [(3, xi (↑s)), (0, xr 85), (1, xr T), (2, xi w)]) (st' := [xi (w + 1), xr T, xr 85]) rfl ?_
      refine ex_callQ (ct_R_readEither hS hSb hTS hT4 (by omega) T1 a1 hag C1 (by omega)) (by omega) rfl ⟨rfl, rfl, rfl⟩ ⟨Nat.le_of_ble_eq_true rfl, rfl, rfl⟩ (Nat.le_of_ble_eq_true rfl) rfl (fun ra m2 hQ => ?_)
      obtain ⟨rfl, I2, rfl, a2, C2, f2⟩ := hQ
      have f12 : FRr T I I2 := fun k j hk => by rw [f2 k j hk, f1 k j (by omega)]
      have T2 := hT.frr f12 hT4
      generalize p_E n tx (p_S n tx k) 101 false (a + 1) [] = t at e hb a2 C2 ⊢
      refine ex_beq rfl (fun h2 => ?_) (fun h2 => ?_)
      · rw [if_neg h2] at e
        refine ex_st 1 (pc' := 75) (ls' := [(3, xi (↑s)), (0, xr 85), (1, xr T), (2, xi w)]) (st' := [xi 0]) rfl ?_
        refine ex_retz rfl (Or.inl rfl) rfl ?_
        rw [e]
        exact ⟨rfl, I2, rfl, a2, (fun q => by cases q), f12⟩
      · rw [if_pos h2] at e
        refine ex_st 2 (pc' := 64) (ls' := [(3, xi (↑s)), (0, xr 85), (1, xr T), (2, xi w)]) (st' := [xi 41, xr 85]) rfl ?_
        by_cases h3 : pg n tx t.1 = 41
        · have hag2 := pg_lt (n := n) (tx := tx) (a := t.1) (by omega)
          rw [if_pos h3] at e
          refine ex_callQ (ct_R_skip_y (L := L) T2 a2 hb.2.1 (c := 41) (by decide) h3) (by omega) rfl ⟨rfl, rfl, rfl⟩ ⟨Nat.le_of_ble_eq_true rfl, rfl, rfl⟩ (Nat.le_of_ble_eq_true rfl) rfl (fun ra m2 hQ => ?_)
          obtain ⟨rfl, I3, rfl, a3, f3⟩ := hQ
          refine ex_st 1 (pc' := 70) (ls' := [(3, xi (↑s)), (0, xr 85), (1, xr T), (2, xi w)]) (st' := []) rfl ?_
          refine ex_st 2 (pc' := 75) (ls' := [(3, xi (↑s)), (0, xr 85), (1, xr T), (2, xi w)]) (st' := [xi 1]) rfl ?_
          refine ex_retz rfl (Or.inr rfl) rfl ?_
          rw [e]
          exact ⟨rfl, I3, rfl, a3, fun _ => (C2 h2).fr (f3 _ _ (by omega)) (fun j => f3 _ _ (by omega)), fun k j hk => by rw [f3 k j (by omega), f12 k j hk]⟩
        · rw [if_neg h3] at e
          refine ex_call (ct_R_skip_n (L := L) T2 a2 hb.2.1 (c := 41) (by decide) h3) (by omega) rfl ⟨rfl, rfl, rfl⟩ ⟨Nat.le_of_ble_eq_true rfl, rfl, rfl⟩ (Nat.le_of_ble_eq_true rfl) rfl ?_
          refine ex_st 1 (pc' := 74) (ls' := [(3, xi (↑s)), (0, xr 85), (1, xr T), (2, xi w)]) (st' := []) rfl ?_
          refine ex_st 1 (pc' := 75) (ls' := [(3, xi (↑s)), (0, xr 85), (1, xr T), (2, xi w)]) (st' := [xi 0]) rfl ?_
          refine ex_retz rfl (Or.inl rfl) rfl ?_
          rw [e]
          exact ⟨rfl, I2, rfl, a2, (fun q => by cases q), f12⟩
  refine ex_st 3 (pc' := 12) (ls' := [(3, xi (↑s)), (0, xr 85), (1, xr T), (2, xi w)]) (st' := [xi 33, xi (↑s)]) rfl ?_
  refine ex_ic rfl (by constructor <;> omega) (by decide) (fun (h0 : (↑s : Int) = 33) => ?_) (fun (h0 : ¬ (↑s : Int) = 33) => ?_)
  · exact at27 (by omega)
  · refine ex_st 2 (pc' := 18) (ls' := [(3, xi (↑s)), (0, xr 85), (1, xr T), (2, xi w)]) (st' := [xi 40, xi (↑s)]) rfl ?_
    refine ex_ic rfl (by constructor <;> omega) (by decide) (fun (h1 : (↑s : Int) = 40) => ?_) (fun (h1 : ¬ (↑s : Int) = 40) => ?_)
    · exact at27 (by omega)
    · refine ex_st 2 (pc' := 23) (ls' := [(3, xi (↑s)), (0, xr 85), (1, xr T), (2, xi w)]) (st' := [xr T, xr 85]) rfl ?_
      refine ex_callQ (ct_R_readTest (L := L) hT ha han hTS hT4 hC hl) (by omega) rfl ⟨rfl, rfl, rfl⟩ ⟨Nat.le_of_ble_eq_true rfl, rfl, rfl⟩ (Nat.le_of_ble_eq_true rfl) rfl (fun ra m2 hQ => ?_)
      rw [test (by omega) (by omega)]
      obtain ⟨rfl, hQ2⟩ := hQ
      refine ex_retz rfl (x_b01 _) rfl ?_
      exact ⟨rfl, hQ2⟩

theorem RSC.four {sc : List Int} {L : Nat → Nat → Int64} {n : Nat} {tx : Nat → Nat} {T : Nat} (hTS : TS T) (hT4 : 104 ≤ T) : RSC sc L n tx T (p_S n tx 4) 0 20 :=
  RSC.succ hTS hT4 (by decide) (by decide) (RSC.succ (w := 1) hTS hT4 (by decide) (by decide) (RSC.succ (w := 2) hTS hT4 (by decide) (by decide) (RSC.succ (w := 3) hTS hT4 (by decide) (by decide) (RSC.zero hTS hT4))))
