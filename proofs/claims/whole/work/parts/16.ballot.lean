/-! Ballot -/
theorem z_bit : ∀ s, s < 64 → ∀ i, i < 6 → z_and (z_shr ((s : Nat) : Int) ((i : Nat) : Int)) 1 = if s.testBit i = true then 1 else 0 := by decide +kernel
theorem x_aa93 : ∀ i, i < 6 → ([some 94, some 95, some 96, some 97, some 98, some 99] : List (Option Nat))[i]? = some (some (94 + i)) := by decide
theorem x_sh94 : ∀ i, i < 6 → xSH[94 + i]? = some (20, 5, []) := by decide
/-- the votes of those of the set s, below n, who like x more than y -/
def sp_for (lk : Nat → Nat → Int) (vt : Nat → Int) (s x y : Nat) : Nat → Int
  | 0 => 0
  | n + 1 => sp_for lk vt s x y n + (if s.testBit n = true ∧ lk n y < lk n x then vt n else 0)
theorem sp_for_bd {lk : Nat → Nat → Int} {vt : Nat → Int} {s x y n : Nat} (h : ∀ p, p < n → 0 ≤ vt p ∧ vt p ≤ 9) : 0 ≤ sp_for lk vt s x y n ∧ sp_for lk vt s x y n ≤ 9 * n := by
  induction n with
  | zero => simp [sp_for]
  | succ n ih =>
    have h1 := ih (fun p hp => h p (by omega))
    have h2 := h n (by omega)
    unfold sp_for
    split <;> omega
theorem sp_for_congr {lk lk' : Nat → Nat → Int} {vt vt' : Nat → Int} {s s' x y n : Nat} (h : ∀ p, p < n → lk p x = lk' p x ∧ lk p y = lk' p y ∧ vt p = vt' p ∧ s.testBit p = s'.testBit p) : sp_for lk vt s x y n = sp_for lk' vt' s' x y n := by
  induction n with
  | zero => rfl
  | succ n ih =>
    have h2 := h n (by omega)
    unfold sp_for
    rw [ih (fun p hp => h p (by omega)), h2.1, h2.2.1, h2.2.2.1, h2.2.2.2]

theorem lp_votesFor {sc : List Int} {I : Nat → Nat → Int} {L : Nat → Nat → Int64} {c : Nat} (hc : I 92 2 = (c : Int)) (hc6 : c ≤ 6) (hl : ∀ p x, p < c → x < 5 → x_R (I (94 + p) x)) {a b s : Nat} (ha : a < 5) (hb : b < 5) (hs : s < 64) (i : Nat) (hi : i ≤ c) (acc : Int) (hacc : acc = sp_for (fun p x => I (94 + p) x) (fun p => I 100 p) s a b i) : x_Ex sc 0 xM_B_votesFor 6 [(5, xi (↑i)), (4, xi acc), (0, xr 92), (1, xi (↑a)), (2, xi (↑b)), (3, xi (↑s))] [] (xSH, I, L) (fun r m' => r = some (xi (sp_for (fun p x => I (94 + p) x) (fun p => I 100 p) s a b c)) ∧ m' = (xSH, I, L)) := by
  refine ex_st 3 (pc' := 12) (ls' := [(5, xi (↑i)), (4, xi acc), (0, xr 92), (1, xi (↑a)), (2, xi (↑b)), (3, xi (↑s))]) (st' := [xi (I 92 2), xi (↑i)]) rfl ?_
  refine ex_ic rfl (by first | (constructor <;> omega) | exact hl _ _ (by omega) (by omega) | (rw [z_bit _ (by omega) _ (by omega)]; split <;> decide)) (by first | (constructor <;> omega) | exact hl _ _ (by omega) (by omega) | (rw [z_bit _ (by omega) _ (by omega)]; split <;> decide)) (fun (h0 : (I 92 2) ≤ (↑i : Int)) => ?_) (fun (h0 : ¬ (I 92 2) ≤ (↑i : Int)) => ?_)
  · refine ex_st 1 (pc' := 66) (ls' := [(5, xi (↑i)), (4, xi acc), (0, xr 92), (1, xi (↑a)), (2, xi (↑b)), (3, xi (↑s))]) (st' := [xi acc]) rfl ?_
    refine ex_reti rfl rfl ?_
    exact ⟨by rw [hacc, show i = c by omega], rfl⟩
  · refine ex_st 6 (pc' := 22) (ls' := [(5, xi (↑i)), (4, xi acc), (0, xr 92), (1, xi (↑a)), (2, xi (↑b)), (3, xi (↑s))]) (st' := [xi 1, xi (z_and (z_shr (↑s) (↑i)) 1)]) rfl ?_
    refine ex_ic rfl (by first | (constructor <;> omega) | exact hl _ _ (by omega) (by omega) | (rw [z_bit _ (by omega) _ (by omega)]; split <;> decide)) (by decide) (fun (h1 : ¬ (z_and (z_shr (↑s) (↑i)) 1) = 1) => ?_) (fun (h1 : ¬ ¬ (z_and (z_shr (↑s) (↑i)) 1) = 1) => ?_)
    · refine ex_st 2 (pc' := 6) (ls' := [(5, xi ((↑i) + 1)), (4, xi acc), (0, xr 92), (1, xi (↑a)), (2, xi (↑b)), (3, xi (↑s))]) (st' := []) rfl ?_
      refine lp_votesFor hc hc6 hl ha hb hs (i + 1) (by omega) (acc) ?_
      have hz := z_bit s hs i (by omega)
      by_cases hbt : s.testBit i = true <;> by_cases hq : I (94 + i) b < I (94 + i) a <;> simp [sp_for, hbt, hq] at hz ⊢ <;> omega
    · refine ex_st 3 (pc' := 31) (ls' := [(5, xi (↑i)), (4, xi acc), (0, xr 92), (1, xi (↑a)), (2, xi (↑b)), (3, xi (↑s))]) (st' := [xi (↑i), xr 93]) rfl ?_
      refine ex_aald (q := 94 + i) (j := i) rfl (by decide) (rfl : xSH[93]? = some _) (by decide) (by omega) (by omega) (by decide) (x_aa93 i (by omega)) (by omega) ?_
      refine ex_st 1 (pc' := 33) (ls' := [(5, xi (↑i)), (4, xi acc), (0, xr 92), (1, xi (↑a)), (2, xi (↑b)), (3, xi (↑s))]) (st' := [xi (↑a), xr (94 + i)]) rfl ?_
      refine ex_iald (j := a) rfl (by omega) (x_sh94 i (by omega)) (by omega) (by omega) (by decide) ?_
      refine ex_st 3 (pc' := 40) (ls' := [(5, xi (↑i)), (4, xi acc), (0, xr 92), (1, xi (↑a)), (2, xi (↑b)), (3, xi (↑s))]) (st' := [xi (↑i), xr 93, xi (I (94 + i) a)]) rfl ?_
      refine ex_aald (q := 94 + i) (j := i) rfl (by decide) (rfl : xSH[93]? = some _) (by decide) (by omega) (by omega) (by decide) (x_aa93 i (by omega)) (by omega) ?_
      refine ex_st 1 (pc' := 42) (ls' := [(5, xi (↑i)), (4, xi acc), (0, xr 92), (1, xi (↑a)), (2, xi (↑b)), (3, xi (↑s))]) (st' := [xi (↑b), xr (94 + i), xi (I (94 + i) a)]) rfl ?_
      refine ex_iald (j := b) rfl (by omega) (x_sh94 i (by omega)) (by omega) (by omega) (by decide) ?_
      refine ex_ic rfl (by first | (constructor <;> omega) | exact hl _ _ (by omega) (by omega) | (rw [z_bit _ (by omega) _ (by omega)]; split <;> decide)) (by first | (constructor <;> omega) | exact hl _ _ (by omega) (by omega) | (rw [z_bit _ (by omega) _ (by omega)]; split <;> decide)) (fun (h2 : (I (94 + i) a) ≤ (I (94 + i) b)) => ?_) (fun (h2 : ¬ (I (94 + i) a) ≤ (I (94 + i) b)) => ?_)
      · refine ex_st 2 (pc' := 6) (ls' := [(5, xi ((↑i) + 1)), (4, xi acc), (0, xr 92), (1, xi (↑a)), (2, xi (↑b)), (3, xi (↑s))]) (st' := []) rfl ?_
        refine lp_votesFor hc hc6 hl ha hb hs (i + 1) (by omega) (acc) ?_
        have hz := z_bit s hs i (by omega)
        by_cases hbt : s.testBit i = true <;> by_cases hq : I (94 + i) b < I (94 + i) a <;> simp [sp_for, hbt, hq] at hz ⊢ <;> omega
      · refine ex_st 4 (pc' := 54) (ls' := [(5, xi (↑i)), (4, xi acc), (0, xr 92), (1, xi (↑a)), (2, xi (↑b)), (3, xi (↑s))]) (st' := [xi (↑i), xr 100, xi acc]) rfl ?_
        refine ex_iald (j := i) rfl (by decide) (rfl : xSH[100]? = some _) (by omega) (by omega) (by decide) ?_
        refine ex_st 4 (pc' := 6) (ls' := [(5, xi ((↑i) + 1)), (4, xi (acc + (I 100 i))), (0, xr 92), (1, xi (↑a)), (2, xi (↑b)), (3, xi (↑s))]) (st' := []) rfl ?_
        refine lp_votesFor hc hc6 hl ha hb hs (i + 1) (by omega) (acc + (I 100 i)) ?_
        have hz := z_bit s hs i (by omega)
        by_cases hbt : s.testBit i = true <;> by_cases hq : I (94 + i) b < I (94 + i) a <;> simp [sp_for, hbt, hq] at hz ⊢ <;> omega
termination_by c - i
decreasing_by all_goals omega
theorem ct_B_votesFor {sc : List Int} {I : Nat → Nat → Int} {L : Nat → Nat → Int64} {c : Nat} (hc : I 92 2 = (c : Int)) (hc6 : c ≤ 6) (hl : ∀ p x, p < c → x < 5 → x_R (I (94 + p) x)) {a b s : Nat} (ha : a < 5) (hb : b < 5) (hs : s < 64) : x_CE sc 1 xN_B_votesFor [xr 92, xi (↑a), xi (↑b), xi (↑s)] (xSH, I, L) (some (xi (sp_for (fun p x => I (94 + p) x) (fun p => I 100 p) s a b c))) (xSH, I, L) := by
  refine x_CE.of (M := xM_B_votesFor) rfl (Nat.le_of_ble_eq_true rfl) ?_
  refine ex_st 4 (pc' := 6) (ls' := [(5, xi 0), (4, xi 0), (0, xr 92), (1, xi (↑a)), (2, xi (↑b)), (3, xi (↑s))]) (st' := []) rfl ?_
  exact lp_votesFor hc hc6 hl ha hb hs 0 (by omega) 0 rfl
theorem ct_B_leads {sc : List Int} {I : Nat → Nat → Int} {L : Nat → Nat → Int64} {c : Nat} (hc : I 92 2 = (c : Int)) (hc6 : c ≤ 6) (hl : ∀ p x, p < c → x < 5 → x_R (I (94 + p) x)) {a b s : Nat} (ha : a < 5) (hb : b < 5) (hs : s < 64) (hv : ∀ p, p < c → 0 ≤ I 100 p ∧ I 100 p ≤ 9) (hq : 0 ≤ I 92 3 ∧ I 92 3 ≤ 99) : x_CE sc 2 xN_B_leads [xr 92, xi (↑a), xi (↑b), xi (↑s)] (xSH, I, L) (some (xi (x_b (I 92 3 < sp_for (fun p x => I (94 + p) x) (fun p => I 100 p) s a b c - sp_for (fun p x => I (94 + p) x) (fun p => I 100 p) s b a c)))) (xSH, I, L) := by
  have g1 := sp_for_bd (lk := fun p x => I (94 + p) x) (vt := fun p => I 100 p) (s := s) (x := a) (y := b) hv
  have g2 := sp_for_bd (lk := fun p x => I (94 + p) x) (vt := fun p => I 100 p) (s := s) (x := b) (y := a) hv
  refine x_CE.of (M := xM_B_leads) rfl (Nat.le_of_ble_eq_true rfl) ?_
  refine ex_st 4 (pc' := 4) (ls' := [(0, xr 92), (1, xi (↑a)), (2, xi (↑b)), (3, xi (↑s))]) (st' := [xi (↑s), xi (↑b), xi (↑a), xr 92]) rfl ?_
  refine ex_call (ct_B_votesFor hc hc6 hl (by omega) (by omega) hs) (by decide) rfl ⟨rfl, rfl, rfl⟩ ⟨Nat.le_of_ble_eq_true rfl, rfl, rfl⟩ (Nat.le_of_ble_eq_true rfl) rfl ?_
  refine ex_st 4 (pc' := 11) (ls' := [(0, xr 92), (1, xi (↑a)), (2, xi (↑b)), (3, xi (↑s))]) (st' := [xi (↑s), xi (↑a), xi (↑b), xr 92, xi (sp_for (fun p x => I (94 + p) x) (fun p => I 100 p) s a b c)]) rfl ?_
  refine ex_call (ct_B_votesFor hc hc6 hl (by omega) (by omega) hs) (by decide) rfl ⟨rfl, rfl, rfl⟩ ⟨Nat.le_of_ble_eq_true rfl, rfl, rfl⟩ (Nat.le_of_ble_eq_true rfl) rfl ?_
  refine ex_st 3 (pc' := 19) (ls' := [(0, xr 92), (1, xi (↑a)), (2, xi (↑b)), (3, xi (↑s))]) (st' := [xi (I 92 3), xi ((sp_for (fun p x => I (94 + p) x) (fun p => I 100 p) s a b c) - (sp_for (fun p x => I (94 + p) x) (fun p => I 100 p) s b a c))]) rfl ?_
  refine ex_ic rfl (by constructor <;> omega) (by constructor <;> omega) (fun (h0 : (sp_for (fun p x => I (94 + p) x) (fun p => I 100 p) s a b c) - (sp_for (fun p x => I (94 + p) x) (fun p => I 100 p) s b a c) ≤ (I 92 3)) => ?_) (fun (h0 : ¬ (sp_for (fun p x => I (94 + p) x) (fun p => I 100 p) s a b c) - (sp_for (fun p x => I (94 + p) x) (fun p => I 100 p) s b a c) ≤ (I 92 3)) => ?_)
  · refine ex_st 1 (pc' := 27) (ls' := [(0, xr 92), (1, xi (↑a)), (2, xi (↑b)), (3, xi (↑s))]) (st' := [xi 0]) rfl ?_
    refine ex_retz rfl (Or.inl rfl) rfl ?_
    exact ⟨by unfold x_b; first | rw [if_pos (by omega)] | rw [if_neg (by omega)], rfl⟩
  · refine ex_st 2 (pc' := 27) (ls' := [(0, xr 92), (1, xi (↑a)), (2, xi (↑b)), (3, xi (↑s))]) (st' := [xi 1]) rfl ?_
    refine ex_retz rfl (Or.inr rfl) rfl ?_
    exact ⟨by unfold x_b; first | rw [if_pos (by omega)] | rw [if_neg (by omega)], rfl⟩
/-- x has more than q votes more than y in the set s -/
def sp_lead (lk : Nat → Nat → Int) (vt : Nat → Int) (q : Int) (c s x y : Nat) : Bool := decide (q < sp_for lk vt s x y c - sp_for lk vt s y x c)
/-- x leads all others below n -/
def sp_all (lk : Nat → Nat → Int) (vt : Nat → Int) (q : Int) (c s x : Nat) : Nat → Bool
  | 0 => true
  | n + 1 => sp_all lk vt q c s x n && (decide (n = x) || sp_lead lk vt q c s x n)

theorem sp_all_no {lk : Nat → Nat → Int} {vt : Nat → Int} {q : Int} {c s x n N : Nat} (h : n < N) (hx : n ≠ x) (hl : sp_lead lk vt q c s x n = false) : sp_all lk vt q c s x N = false := by
  induction N with
  | zero => omega
  | succ N ih =>
    unfold sp_all
    by_cases e : n = N
    · subst e; simp [hx, hl]
    · rw [ih (by omega)]; rfl
theorem sp_all_yes {lk : Nat → Nat → Int} {vt : Nat → Int} {q : Int} {c s x n : Nat} (h : sp_all lk vt q c s x n = true) (hl : n = x ∨ sp_lead lk vt q c s x n = true) : sp_all lk vt q c s x (n + 1) = true := by
  unfold sp_all
  rw [h]
  rcases hl with hl | hl <;> simp [hl]

theorem lp_leadsAll {sc : List Int} {I : Nat → Nat → Int} {L : Nat → Nat → Int64} {c : Nat} (hc : I 92 2 = (c : Int)) (hc6 : c ≤ 6) (hl : ∀ p x, p < c → x < 5 → x_R (I (94 + p) x)) {a s : Nat} (ha : a < 5) (hs : s < 64) (hv : ∀ p, p < c → 0 ≤ I 100 p ∧ I 100 p ≤ 9) (hq : 0 ≤ I 92 3 ∧ I 92 3 ≤ 99) (i : Nat) (hi : i ≤ 5) (hacc : sp_all (fun p x => I (94 + p) x) (fun p => I 100 p) (I 92 3) c s a i = true) : x_Ex sc 2 xM_B_leadsAll 2 [(3, xi (↑i)), (0, xr 92), (1, xi (↑a)), (2, xi (↑s))] [] (xSH, I, L) (fun r m' => r = some (xi (x_b (sp_all (fun p x => I (94 + p) x) (fun p => I 100 p) (I 92 3) c s a 5 = true))) ∧ m' = (xSH, I, L)) := by
  refine ex_st 2 (pc' := 4) (ls' := [(3, xi (↑i)), (0, xr 92), (1, xi (↑a)), (2, xi (↑s))]) (st' := [xi 5, xi (↑i)]) rfl ?_
  refine ex_ic rfl (by constructor <;> omega) (by decide) (fun (h0 : (5 : Int) ≤ (↑i : Int)) => ?_) (fun (h0 : ¬ (5 : Int) ≤ (↑i : Int)) => ?_)
  · refine ex_st 1 (pc' := 31) (ls' := [(3, xi (↑i)), (0, xr 92), (1, xi (↑a)), (2, xi (↑s))]) (st' := [xi 1]) rfl ?_
    refine ex_retz rfl (Or.inr rfl) rfl ?_
    exact ⟨by rw [show i = 5 by omega] at hacc; rw [hacc]; rfl, rfl⟩
  · refine ex_st 2 (pc' := 9) (ls' := [(3, xi (↑i)), (0, xr 92), (1, xi (↑a)), (2, xi (↑s))]) (st' := [xi (↑a), xi (↑i)]) rfl ?_
    refine ex_ic rfl (by constructor <;> omega) (by constructor <;> omega) (fun (h1 : (↑i : Int) = (↑a : Int)) => ?_) (fun (h1 : ¬ (↑i : Int) = (↑a : Int)) => ?_)
    · refine ex_st 2 (pc' := 2) (ls' := [(3, xi ((↑i) + 1)), (0, xr 92), (1, xi (↑a)), (2, xi (↑s))]) (st' := []) rfl ?_
      refine lp_leadsAll hc hc6 hl ha hs hv hq (i + 1) (by omega) (sp_all_yes hacc ?_)
      first | (left; omega) | (right; simp only [sp_lead, decide_eq_true_eq]; assumption)
    · refine ex_st 4 (pc' := 16) (ls' := [(3, xi (↑i)), (0, xr 92), (1, xi (↑a)), (2, xi (↑s))]) (st' := [xi (↑s), xi (↑i), xi (↑a), xr 92]) rfl ?_
      refine ex_call (ct_B_leads hc hc6 hl (by omega) (by omega) hs hv hq) (by decide) rfl ⟨rfl, rfl, rfl⟩ ⟨Nat.le_of_ble_eq_true rfl, rfl, rfl⟩ (Nat.le_of_ble_eq_true rfl) rfl ?_
      refine ex_bne rfl (fun h2 => ?_) (fun h2 => ?_)
      · refine ex_st 2 (pc' := 2) (ls' := [(3, xi ((↑i) + 1)), (0, xr 92), (1, xi (↑a)), (2, xi (↑s))]) (st' := []) rfl ?_
        refine lp_leadsAll hc hc6 hl ha hs hv hq (i + 1) (by omega) (sp_all_yes hacc ?_)
        first | (left; omega) | (right; simp only [sp_lead, decide_eq_true_eq]; assumption)
      · refine ex_st 1 (pc' := 23) (ls' := [(3, xi (↑i)), (0, xr 92), (1, xi (↑a)), (2, xi (↑s))]) (st' := [xi 0]) rfl ?_
        refine ex_retz rfl (Or.inl rfl) rfl ?_
        refine ⟨?_, rfl⟩
        rw [show sp_all (fun p x => I (94 + p) x) (fun p => I 100 p) (I 92 3) c s a 5 = false from ?_]
        · rfl
        · exact sp_all_no (n := i) (by omega) (by omega) (by simp only [sp_lead, decide_eq_false_iff_not]; assumption)
termination_by 5 - i
decreasing_by all_goals omega
theorem ct_B_leadsAll {sc : List Int} {I : Nat → Nat → Int} {L : Nat → Nat → Int64} {c : Nat} (hc : I 92 2 = (c : Int)) (hc6 : c ≤ 6) (hl : ∀ p x, p < c → x < 5 → x_R (I (94 + p) x)) {a s : Nat} (ha : a < 5) (hs : s < 64) (hv : ∀ p, p < c → 0 ≤ I 100 p ∧ I 100 p ≤ 9) (hq : 0 ≤ I 92 3 ∧ I 92 3 ≤ 99) : x_CE sc 3 xN_B_leadsAll [xr 92, xi (↑a), xi (↑s)] (xSH, I, L) (some (xi (x_b (sp_all (fun p x => I (94 + p) x) (fun p => I 100 p) (I 92 3) c s a 5 = true)))) (xSH, I, L) := by
  refine x_CE.of (M := xM_B_leadsAll) rfl (Nat.le_of_ble_eq_true rfl) ?_
  refine ex_st 2 (pc' := 2) (ls' := [(3, xi 0), (0, xr 92), (1, xi (↑a)), (2, xi (↑s))]) (st' := []) rfl ?_
  exact lp_leadsAll hc hc6 hl ha hs hv hq 0 (by omega) rfl
