/-! Ballot -/
theorem z_bit : ∀ s, s < 64 → ∀ i, i < 6 → z_and (z_shr ((s : Nat) : Int) ((i : Nat) : Int)) 1 = if s.testBit i = true then 1 else 0 := by decide +kernel
theorem x_aa93 : ∀ i, i < 6 → ([some 94, some 95, some 96, some 97, some 98, some 99] : List (Option Nat))[i]? = some (some (94 + i)) := by decide
theorem x_sh94 : ∀ i, i < 6 → xSH[94 + i]? = some (20, 5, []) := by decide
/-- the votes of those of the set s, below n, who like x more than y -/
def sp_for (lk : Nat → Nat → Int) (vt : Nat → Int) (s x y : Nat) : Nat → Int
  | 0 => 0
  | n + 1 => sp_for lk vt s x y n + (if s.testBit n = true ∧ lk n y < lk n x then vt n else 0)
theorem sp_for_bd {lk : Nat → Nat → Int} {vt : Nat → Int} {s x y n : Nat} (h : ∀ p, p < n → 0 ≤ vt p ∧ vt p ≤ 9) : 0 ≤ sp_for lk vt s x y n ∧ sp_for lk vt s x y n ≤ 9 * n := by
  induction n with
  | zero => simp [sp_for]
  | succ n ih =>
    have h1 := ih (fun p hp => h p (by omega))
    have h2 := h n (by omega)
    unfold sp_for
    split <;> omega
theorem sp_for_congr {lk lk' : Nat → Nat → Int} {vt vt' : Nat → Int} {s s' x y n : Nat} (h : ∀ p, p < n → lk p x = lk' p x ∧ lk p y = lk' p y ∧ vt p = vt' p ∧ s.testBit p = s'.testBit p) : sp_for lk vt s x y n = sp_for lk' vt' s' x y n := by
  induction n with
  | zero => rfl
  | succ n ih =>
    have h2 := h n (by omega)
    unfold sp_for
    rw [ih (fun p hp => h p (by omega)), h2.1, h2.2.1, h2.2.2.1, h2.2.2.2]

/-- the ballot's cells hold: how many, who likes what how much, the votes, the quota -/
def BW (I : Nat → Nat → Int) (c : Nat) (lk : Nat → Nat → Int) (vt : Nat → Int) (qv : Int) : Prop :=
  I 92 2 = (c : Int) ∧ c ≤ 6 ∧ (∀ p x, p < c → x < 5 → I (94 + p) x = lk p x ∧ x_R (lk p x)) ∧ (∀ p, p < c → I 100 p = vt p ∧ 0 ≤ vt p ∧ vt p ≤ 9) ∧ I 92 3 = qv ∧ 0 ≤ qv ∧ qv ≤ 99
theorem BW.fr {I I' : Nat → Nat → Int} {c : Nat} {lk : Nat → Nat → Int} {vt : Nat → Int} {qv : Int} (h : BW I c lk vt qv) (hf : ∀ k j, k ≠ 101 → k ≠ 103 → I' k j = I k j) : BW I' c lk vt qv := by
  obtain ⟨h1, h2, h3, h4, h5, h6⟩ := h
  refine ⟨by rw [hf _ _ (by decide) (by decide)]; exact h1, h2, fun p x hp hx => ?_, fun p hp => ?_, by rw [hf _ _ (by decide) (by decide)]; exact h5, h6⟩
  · rw [hf _ _ (by omega) (by omega)]; exact h3 p x hp hx
  · rw [hf _ _ (by decide) (by decide)]; exact h4 p hp
/-- x has more than q votes more than y in the set s -/
def sp_lead (lk : Nat → Nat → Int) (vt : Nat → Int) (q : Int) (c s x y : Nat) : Bool := decide (q < sp_for lk vt s x y c - sp_for lk vt s y x c)
/-- x leads all others below n -/
def sp_all (lk : Nat → Nat → Int) (vt : Nat → Int) (q : Int) (c s x : Nat) : Nat → Bool
  | 0 => true
  | n + 1 => sp_all lk vt q c s x n && (decide (n = x) || sp_lead lk vt q c s x n)
theorem sp_all_no {lk : Nat → Nat → Int} {vt : Nat → Int} {q : Int} {c s x n N : Nat} (h : n < N) (hx : n ≠ x) (hl : sp_lead lk vt q c s x n = false) : sp_all lk vt q c s x N = false := by
  induction N with
  | zero => omega
  | succ N ih =>
    unfold sp_all
    by_cases e : n = N
    · subst e; simp [hx, hl]
    · rw [ih (by omega)]; rfl
theorem sp_all_yes {lk : Nat → Nat → Int} {vt : Nat → Int} {q : Int} {c s x n : Nat} (h : sp_all lk vt q c s x n = true) (hl : n = x ∨ sp_lead lk vt q c s x n = true) : sp_all lk vt q c s x (n + 1) = true := by
  unfold sp_all
  rw [h]
  rcases hl with hl | hl <;> simp [hl]
/-- a row of truths as bits -/
def sp_mask (f : Nat → Bool) : Nat → Int
  | 0 => 0
  | n + 1 => sp_mask f n + (if f n = true then 2 ^ n else 0)
theorem sp_mask_bd (f : Nat → Bool) (n : Nat) : 0 ≤ sp_mask f n ∧ sp_mask f n < 2 ^ n := by
  induction n with
  | zero => simp [sp_mask]
  | succ n ih =>
    unfold sp_mask
    rw [Int.pow_succ]
    split <;> omega
theorem z_orbit : ∀ i, i < 6 → ∀ m, m < 2 ^ i → z_or ((m : Nat) : Int) (z_shl 1 ((i : Nat) : Int)) = m + 2 ^ i := by decide +kernel
theorem sp_mask_or (f : Nat → Bool) {i : Nat} (hi : i < 6) : z_or (sp_mask f i) (z_shl 1 (i : Int)) = sp_mask f i + 2 ^ i := by
  obtain ⟨h0, h1⟩ := sp_mask_bd f i
  obtain ⟨m, hm⟩ := Int.eq_ofNat_of_zero_le h0
  have h2 : m < 2 ^ i := by
    rw [hm] at h1
    have : ((2 : Int) ^ i) = ((2 ^ i : Nat) : Int) := by simp
    rw [this] at h1
    exact Int.ofNat_lt.mp h1
  rw [hm]
  exact z_orbit i hi m h2
theorem sp_mask_get (f : Nat → Bool) : ∀ b, b < 5 → z_and (z_shr (sp_mask f 5) ((b : Nat) : Int)) 1 = if f b = true then 1 else 0 := by
  have key : ∀ f0 f1 f2 f3 f4 : Bool, ∀ b, b < 5 → z_and (z_shr (0 + (if f0 = true then 2 ^ 0 else 0) + (if f1 = true then 2 ^ 1 else 0) + (if f2 = true then 2 ^ 2 else 0) + (if f3 = true then 2 ^ 3 else 0) + (if f4 = true then 2 ^ 4 else 0)) ((b : Nat) : Int)) 1 = if (match b with | 0 => f0 | 1 => f1 | 2 => f2 | 3 => f3 | _ => f4) = true then 1 else 0 := by decide +kernel
  intro b hb
  match b, hb with
  | 0, _ => exact key (f 0) (f 1) (f 2) (f 3) (f 4) 0 (by decide)
  | 1, _ => exact key (f 0) (f 1) (f 2) (f 3) (f 4) 1 (by decide)
  | 2, _ => exact key (f 0) (f 1) (f 2) (f 3) (f 4) 2 (by decide)
  | 3, _ => exact key (f 0) (f 1) (f 2) (f 3) (f 4) 3 (by decide)
  | 4, _ => exact key (f 0) (f 1) (f 2) (f 3) (f 4) 4 (by decide)

theorem lp_votesFor {sc : List Int} {I : Nat → Nat → Int} {L : Nat → Nat → Int64} {c : Nat} {lk : Nat → Nat → Int} {vt : Nat → Int} {qv : Int} (hB : BW I c lk vt qv) {a b s : Nat} (ha : a < 5) (hb : b < 5) (hs : s < 64) (i : Nat) (hi : i ≤ c) (acc : Int) (hacc : acc = sp_for lk vt s a b i) : x_Ex sc 0 xM_B_votesFor 6 [(5, xi (↑i)), (4, xi acc), (0, xr 92), (1, xi (↑a)), (2, xi (↑b)), (3, xi (↑s))] [] (xSH, I, L) (fun r m' => r = some (xi (sp_for lk vt s a b c)) ∧ m' = (xSH, I, L)) := by
  obtain ⟨hc, hc6, hl, hv, hq0, hq1, hq2⟩ := id hB
  refine ex_st 3 (pc' := 12) (ls' := [(5, xi (↑i)), (4, xi acc), (0, xr 92), (1, xi (↑a)), (2, xi (↑b)), (3, xi (↑s))]) (st' := [xi (I 92 2), xi (↑i)]) rfl ?_
  refine ex_ic rfl (by first | (constructor <;> omega) | (rw [(hl _ _ (by omega) (by omega)).1]; exact (hl _ _ (by omega) (by omega)).2) | (rw [z_bit _ (by omega) _ (by omega)]; split <;> decide)) (by first | (constructor <;> omega) | (rw [(hl _ _ (by omega) (by omega)).1]; exact (hl _ _ (by omega) (by omega)).2) | (rw [z_bit _ (by omega) _ (by omega)]; split <;> decide)) (fun (h0 : (I 92 2) ≤ (↑i : Int)) => ?_) (fun (h0 : ¬ (I 92 2) ≤ (↑i : Int)) => ?_)
  · refine ex_st 1 (pc' := 66) (ls' := [(5, xi (↑i)), (4, xi acc), (0, xr 92), (1, xi (↑a)), (2, xi (↑b)), (3, xi (↑s))]) (st' := [xi acc]) rfl ?_
    refine ex_reti rfl rfl ?_
    exact ⟨by rw [hacc, show i = c by omega], rfl⟩
  · refine ex_st 6 (pc' := 22) (ls' := [(5, xi (↑i)), (4, xi acc), (0, xr 92), (1, xi (↑a)), (2, xi (↑b)), (3, xi (↑s))]) (st' := [xi 1, xi (z_and (z_shr (↑s) (↑i)) 1)]) rfl ?_
    refine ex_ic rfl (by first | (constructor <;> omega) | (rw [(hl _ _ (by omega) (by omega)).1]; exact (hl _ _ (by omega) (by omega)).2) | (rw [z_bit _ (by omega) _ (by omega)]; split <;> decide)) (by decide) (fun (h1 : ¬ (z_and (z_shr (↑s) (↑i)) 1) = 1) => ?_) (fun (h1 : ¬ ¬ (z_and (z_shr (↑s) (↑i)) 1) = 1) => ?_)
    · refine ex_st 2 (pc' := 6) (ls' := [(5, xi ((↑i) + 1)), (4, xi acc), (0, xr 92), (1, xi (↑a)), (2, xi (↑b)), (3, xi (↑s))]) (st' := []) rfl ?_
      refine lp_votesFor hB ha hb hs (i + 1) (by omega) (acc) ?_
      have hz := z_bit s hs i (by omega)
      have e1 := (hl i a (by omega) ha).1
      have e2 := (hl i b (by omega) hb).1
      have e3 := (hv i (by omega)).1
      by_cases hbt : s.testBit i = true <;> by_cases hq : lk i b < lk i a <;> simp [sp_for, hbt, hq] at hz ⊢ <;> omega
    · refine ex_st 3 (pc' := 31) (ls' := [(5, xi (↑i)), (4, xi acc), (0, xr 92), (1, xi (↑a)), (2, xi (↑b)), (3, xi (↑s))]) (st' := [xi (↑i), xr 93]) rfl ?_
      refine ex_aald (q := 94 + i) (j := i) rfl (by decide) (rfl : xSH[93]? = some _) (by decide) (by omega) (by omega) (by decide) (x_aa93 i (by omega)) (by omega) ?_
      refine ex_st 1 (pc' := 33) (ls' := [(5, xi (↑i)), (4, xi acc), (0, xr 92), (1, xi (↑a)), (2, xi (↑b)), (3, xi (↑s))]) (st' := [xi (↑a), xr (94 + i)]) rfl ?_
      refine ex_iald (j := a) rfl (by omega) (x_sh94 i (by omega)) (by omega) (by omega) (by decide) ?_
      refine ex_st 3 (pc' := 40) (ls' := [(5, xi (↑i)), (4, xi acc), (0, xr 92), (1, xi (↑a)), (2, xi (↑b)), (3, xi (↑s))]) (st' := [xi (↑i), xr 93, xi (I (94 + i) a)]) rfl ?_
      refine ex_aald (q := 94 + i) (j := i) rfl (by decide) (rfl : xSH[93]? = some _) (by decide) (by omega) (by omega) (by decide) (x_aa93 i (by omega)) (by omega) ?_
      refine ex_st 1 (pc' := 42) (ls' := [(5, xi (↑i)), (4, xi acc), (0, xr 92), (1, xi (↑a)), (2, xi (↑b)), (3, xi (↑s))]) (st' := [xi (↑b), xr (94 + i), xi (I (94 + i) a)]) rfl ?_
      refine ex_iald (j := b) rfl (by omega) (x_sh94 i (by omega)) (by omega) (by omega) (by decide) ?_
      refine ex_ic rfl (by first | (constructor <;> omega) | (rw [(hl _ _ (by omega) (by omega)).1]; exact (hl _ _ (by omega) (by omega)).2) | (rw [z_bit _ (by omega) _ (by omega)]; split <;> decide)) (by first | (constructor <;> omega) | (rw [(hl _ _ (by omega) (by omega)).1]; exact (hl _ _ (by omega) (by omega)).2) | (rw [z_bit _ (by omega) _ (by omega)]; split <;> decide)) (fun (h2 : (I (94 + i) a) ≤ (I (94 + i) b)) => ?_) (fun (h2 : ¬ (I (94 + i) a) ≤ (I (94 + i) b)) => ?_)
      · refine ex_st 2 (pc' := 6) (ls' := [(5, xi ((↑i) + 1)), (4, xi acc), (0, xr 92), (1, xi (↑a)), (2, xi (↑b)), (3, xi (↑s))]) (st' := []) rfl ?_
        refine lp_votesFor hB ha hb hs (i + 1) (by omega) (acc) ?_
        have hz := z_bit s hs i (by omega)
        have e1 := (hl i a (by omega) ha).1
        have e2 := (hl i b (by omega) hb).1
        have e3 := (hv i (by omega)).1
        by_cases hbt : s.testBit i = true <;> by_cases hq : lk i b < lk i a <;> simp [sp_for, hbt, hq] at hz ⊢ <;> omega
      · refine ex_st 4 (pc' := 54) (ls' := [(5, xi (↑i)), (4, xi acc), (0, xr 92), (1, xi (↑a)), (2, xi (↑b)), (3, xi (↑s))]) (st' := [xi (↑i), xr 100, xi acc]) rfl ?_
        refine ex_iald (j := i) rfl (by decide) (rfl : xSH[100]? = some _) (by omega) (by omega) (by decide) ?_
        refine ex_st 4 (pc' := 6) (ls' := [(5, xi ((↑i) + 1)), (4, xi (acc + (I 100 i))), (0, xr 92), (1, xi (↑a)), (2, xi (↑b)), (3, xi (↑s))]) (st' := []) rfl ?_
        refine lp_votesFor hB ha hb hs (i + 1) (by omega) (acc + (I 100 i)) ?_
        have hz := z_bit s hs i (by omega)
        have e1 := (hl i a (by omega) ha).1
        have e2 := (hl i b (by omega) hb).1
        have e3 := (hv i (by omega)).1
        by_cases hbt : s.testBit i = true <;> by_cases hq : lk i b < lk i a <;> simp [sp_for, hbt, hq] at hz ⊢ <;> omega
termination_by c - i
decreasing_by all_goals omega
theorem ct_B_votesFor {sc : List Int} {I : Nat → Nat → Int} {L : Nat → Nat → Int64} {c : Nat} {lk : Nat → Nat → Int} {vt : Nat → Int} {qv : Int} (hB : BW I c lk vt qv) {a b s : Nat} (ha : a < 5) (hb : b < 5) (hs : s < 64) : x_CE sc 1 xN_B_votesFor [xr 92, xi (↑a), xi (↑b), xi (↑s)] (xSH, I, L) (some (xi (sp_for lk vt s a b c))) (xSH, I, L) := by
  refine x_CE.of (M := xM_B_votesFor) rfl (Nat.le_of_ble_eq_true rfl) ?_
  refine ex_st 4 (pc' := 6) (ls' := [(5, xi 0), (4, xi 0), (0, xr 92), (1, xi (↑a)), (2, xi (↑b)), (3, xi (↑s))]) (st' := []) rfl ?_
  exact lp_votesFor hB ha hb hs 0 (by omega) 0 rfl
theorem ct_B_leads {sc : List Int} {I : Nat → Nat → Int} {L : Nat → Nat → Int64} {c : Nat} {lk : Nat → Nat → Int} {vt : Nat → Int} {qv : Int} (hB : BW I c lk vt qv) {a b s : Nat} (ha : a < 5) (hb : b < 5) (hs : s < 64) : x_CE sc 2 xN_B_leads [xr 92, xi (↑a), xi (↑b), xi (↑s)] (xSH, I, L) (some (xi (x_b (sp_lead lk vt qv c s a b = true)))) (xSH, I, L) := by
  obtain ⟨hc, hc6, hl, hv, hq0, hq1, hq2⟩ := id hB
  have g1 := sp_for_bd (lk := lk) (vt := vt) (s := s) (x := a) (y := b) (n := c) (fun p hp => (hv p hp).2)
  have g2 := sp_for_bd (lk := lk) (vt := vt) (s := s) (x := b) (y := a) (n := c) (fun p hp => (hv p hp).2)
  refine x_CE.of (M := xM_B_leads) rfl (Nat.le_of_ble_eq_true rfl) ?_
  refine ex_st 4 (pc' := 4) (ls' := [(0, xr 92), (1, xi (↑a)), (2, xi (↑b)), (3, xi (↑s))]) (st' := [xi (↑s), xi (↑b), xi (↑a), xr 92]) rfl ?_
  refine ex_call (ct_B_votesFor hB (by omega) (by omega) hs) (by decide) rfl ⟨rfl, rfl, rfl⟩ ⟨Nat.le_of_ble_eq_true rfl, rfl, rfl⟩ (Nat.le_of_ble_eq_true rfl) rfl ?_
  refine ex_st 4 (pc' := 11) (ls' := [(0, xr 92), (1, xi (↑a)), (2, xi (↑b)), (3, xi (↑s))]) (st' := [xi (↑s), xi (↑a), xi (↑b), xr 92, xi (sp_for lk vt s a b c)]) rfl ?_
  refine ex_call (ct_B_votesFor hB (by omega) (by omega) hs) (by decide) rfl ⟨rfl, rfl, rfl⟩ ⟨Nat.le_of_ble_eq_true rfl, rfl, rfl⟩ (Nat.le_of_ble_eq_true rfl) rfl ?_
  refine ex_st 3 (pc' := 19) (ls' := [(0, xr 92), (1, xi (↑a)), (2, xi (↑b)), (3, xi (↑s))]) (st' := [xi (I 92 3), xi ((sp_for lk vt s a b c) - (sp_for lk vt s b a c))]) rfl ?_
  refine ex_ic rfl (by constructor <;> omega) (by constructor <;> omega) (fun (h0 : (sp_for lk vt s a b c) - (sp_for lk vt s b a c) ≤ (I 92 3)) => ?_) (fun (h0 : ¬ (sp_for lk vt s a b c) - (sp_for lk vt s b a c) ≤ (I 92 3)) => ?_)
  · refine ex_st 1 (pc' := 27) (ls' := [(0, xr 92), (1, xi (↑a)), (2, xi (↑b)), (3, xi (↑s))]) (st' := [xi 0]) rfl ?_
    refine ex_retz rfl (Or.inl rfl) rfl ?_
    exact ⟨by unfold x_b sp_lead; first | rw [if_pos (by simp only [decide_eq_true_eq]; omega)] | rw [if_neg (by simp only [decide_eq_true_eq]; omega)], rfl⟩
  · refine ex_st 2 (pc' := 27) (ls' := [(0, xr 92), (1, xi (↑a)), (2, xi (↑b)), (3, xi (↑s))]) (st' := [xi 1]) rfl ?_
    refine ex_retz rfl (Or.inr rfl) rfl ?_
    exact ⟨by unfold x_b sp_lead; first | rw [if_pos (by simp only [decide_eq_true_eq]; omega)] | rw [if_neg (by simp only [decide_eq_true_eq]; omega)], rfl⟩
theorem lp_leadsAll {sc : List Int} {I : Nat → Nat → Int} {L : Nat → Nat → Int64} {c : Nat} {lk : Nat → Nat → Int} {vt : Nat → Int} {qv : Int} (hB : BW I c lk vt qv) {a s : Nat} (ha : a < 5) (hs : s < 64) (i : Nat) (hi : i ≤ 5) (hacc : sp_all lk vt qv c s a i = true) : x_Ex sc 2 xM_B_leadsAll 2 [(3, xi (↑i)), (0, xr 92), (1, xi (↑a)), (2, xi (↑s))] [] (xSH, I, L) (fun r m' => r = some (xi (x_b (sp_all lk vt qv c s a 5 = true))) ∧ m' = (xSH, I, L)) := by
  refine ex_st 2 (pc' := 4) (ls' := [(3, xi (↑i)), (0, xr 92), (1, xi (↑a)), (2, xi (↑s))]) (st' := [xi 5, xi (↑i)]) rfl ?_
  refine ex_ic rfl (by constructor <;> omega) (by decide) (fun (h0 : (5 : Int) ≤ (↑i : Int)) => ?_) (fun (h0 : ¬ (5 : Int) ≤ (↑i : Int)) => ?_)
  · refine ex_st 1 (pc' := 31) (ls' := [(3, xi (↑i)), (0, xr 92), (1, xi (↑a)), (2, xi (↑s))]) (st' := [xi 1]) rfl ?_
    refine ex_retz rfl (Or.inr rfl) rfl ?_
    exact ⟨by rw [show i = 5 by omega] at hacc; rw [hacc]; rfl, rfl⟩
  · refine ex_st 2 (pc' := 9) (ls' := [(3, xi (↑i)), (0, xr 92), (1, xi (↑a)), (2, xi (↑s))]) (st' := [xi (↑a), xi (↑i)]) rfl ?_
    refine ex_ic rfl (by constructor <;> omega) (by constructor <;> omega) (fun (h1 : (↑i : Int) = (↑a : Int)) => ?_) (fun (h1 : ¬ (↑i : Int) = (↑a : Int)) => ?_)
    · refine ex_st 2 (pc' := 2) (ls' := [(3, xi ((↑i) + 1)), (0, xr 92), (1, xi (↑a)), (2, xi (↑s))]) (st' := []) rfl ?_
      refine lp_leadsAll hB ha hs (i + 1) (by omega) (sp_all_yes hacc ?_)
      first | (left; omega) | (right; assumption)
    · refine ex_st 4 (pc' := 16) (ls' := [(3, xi (↑i)), (0, xr 92), (1, xi (↑a)), (2, xi (↑s))]) (st' := [xi (↑s), xi (↑i), xi (↑a), xr 92]) rfl ?_
      refine ex_call (ct_B_leads hB (by omega) (by omega) hs) (by decide) rfl ⟨rfl, rfl, rfl⟩ ⟨Nat.le_of_ble_eq_true rfl, rfl, rfl⟩ (Nat.le_of_ble_eq_true rfl) rfl ?_
      refine ex_bne rfl (fun h2 => ?_) (fun h2 => ?_)
      · refine ex_st 2 (pc' := 2) (ls' := [(3, xi ((↑i) + 1)), (0, xr 92), (1, xi (↑a)), (2, xi (↑s))]) (st' := []) rfl ?_
        refine lp_leadsAll hB ha hs (i + 1) (by omega) (sp_all_yes hacc ?_)
        first | (left; omega) | (right; assumption)
      · refine ex_st 1 (pc' := 23) (ls' := [(3, xi (↑i)), (0, xr 92), (1, xi (↑a)), (2, xi (↑s))]) (st' := [xi 0]) rfl ?_
        refine ex_retz rfl (Or.inl rfl) rfl ?_
        refine ⟨?_, rfl⟩
        rw [show sp_all lk vt qv c s a 5 = false from sp_all_no (n := i) (by omega) (by omega) (by simpa using h2)]
        rfl
termination_by 5 - i
decreasing_by all_goals omega
theorem ct_B_leadsAll {sc : List Int} {I : Nat → Nat → Int} {L : Nat → Nat → Int64} {c : Nat} {lk : Nat → Nat → Int} {vt : Nat → Int} {qv : Int} (hB : BW I c lk vt qv) {a s : Nat} (ha : a < 5) (hs : s < 64) : x_CE sc 3 xN_B_leadsAll [xr 92, xi (↑a), xi (↑s)] (xSH, I, L) (some (xi (x_b (sp_all lk vt qv c s a 5 = true)))) (xSH, I, L) := by
  refine x_CE.of (M := xM_B_leadsAll) rfl (Nat.le_of_ble_eq_true rfl) ?_
  refine ex_st 2 (pc' := 2) (ls' := [(3, xi 0), (0, xr 92), (1, xi (↑a)), (2, xi (↑s))]) (st' := []) rfl ?_
  exact lp_leadsAll hB ha hs 0 (by omega) rfl
/-- the first below N, from n on, that leads all -/
def sp_win (lk : Nat → Nat → Int) (vt : Nat → Int) (q : Int) (c s : Nat) : Nat → Nat → Int
  | 0, _ => -5
  | k + 1, n => if sp_all lk vt q c s n 5 = true then (n : Int) else sp_win lk vt q c s k (n + 1)

theorem lp_winner {sc : List Int} {I : Nat → Nat → Int} {L : Nat → Nat → Int64} {c : Nat} {lk : Nat → Nat → Int} {vt : Nat → Int} {qv : Int} (hB : BW I c lk vt qv) {s : Nat} (hs : s < 64) (hp : I 92 1 = (s : Int)) (i : Nat) (hi : i ≤ 5) : x_Ex sc 3 xM_B_winner 2 [(1, xi (↑i)), (0, xr 92)] [] (xSH, I, L) (fun r m' => r = some (xi (sp_win lk vt qv c s (5 - i) i)) ∧ m' = (xSH, I, L)) := by
  refine ex_st 2 (pc' := 4) (ls' := [(1, xi (↑i)), (0, xr 92)]) (st' := [xi 5, xi (↑i)]) rfl ?_
  refine ex_ic rfl (by constructor <;> omega) (by decide) (fun (h0 : (5 : Int) ≤ (↑i : Int)) => ?_) (fun (h0 : ¬ (5 : Int) ≤ (↑i : Int)) => ?_)
  · refine ex_st 1 (pc' := 29) (ls' := [(1, xi (↑i)), (0, xr 92)]) (st' := [xi (-5)]) rfl ?_
    refine ex_reti rfl rfl ?_
    exact ⟨by rw [show 5 - i = 0 by omega]; rfl, rfl⟩
  · refine ex_st 4 (pc' := 13) (ls' := [(1, xi (↑i)), (0, xr 92)]) (st' := [xi (I 92 1), xi (↑i), xr 92]) rfl ?_
    rw [hp]
    refine ex_call (ct_B_leadsAll hB (a := i) (s := s) (by omega) hs) (by decide) rfl ⟨rfl, rfl, rfl⟩ ⟨Nat.le_of_ble_eq_true rfl, rfl, rfl⟩ (Nat.le_of_ble_eq_true rfl) rfl ?_
    refine ex_beq rfl (fun h1 => ?_) (fun h1 => ?_)
    · refine ex_st 2 (pc' := 2) (ls' := [(1, xi ((↑i) + 1)), (0, xr 92)]) (st' := []) rfl ?_
      have h9 := lp_winner (sc := sc) (L := L) hB hs hp (i + 1) (by omega)
      rw [show 5 - i = (4 - i) + 1 by omega]
      unfold sp_win
      rw [if_neg (by assumption)]
      rw [show 5 - (i + 1) = 4 - i by omega] at h9
      exact h9
    · refine ex_st 1 (pc' := 20) (ls' := [(1, xi (↑i)), (0, xr 92)]) (st' := [xi (↑i)]) rfl ?_
      refine ex_reti rfl rfl ?_
      exact ⟨by rw [show 5 - i = (4 - i) + 1 by omega]; unfold sp_win; rw [if_pos (by assumption)], rfl⟩
termination_by 5 - i
decreasing_by all_goals omega
theorem ct_B_winner {sc : List Int} {I : Nat → Nat → Int} {L : Nat → Nat → Int64} {c : Nat} {lk : Nat → Nat → Int} {vt : Nat → Int} {qv : Int} (hB : BW I c lk vt qv) {s : Nat} (hs : s < 64) (hp : I 92 1 = (s : Int)) : x_CE sc 4 xN_B_winner [xr 92] (xSH, I, L) (some (xi (sp_win lk vt qv c s 5 0))) (xSH, I, L) := by
  refine x_CE.of (M := xM_B_winner) rfl (Nat.le_of_ble_eq_true rfl) ?_
  refine ex_st 2 (pc' := 2) (ls' := [(1, xi 0), (0, xr 92)]) (st' := []) rfl ?_
  exact lp_winner hB hs hp 0 (by omega)
