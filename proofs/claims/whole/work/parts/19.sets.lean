/-! Ballot: sets -/
/-- how many bits of a set below 64 -/
def sp_bc (s : Nat) : Nat := s % 2 + s / 2 % 2 + s / 4 % 2 + s / 8 % 2 + s / 16 % 2 + s / 32 % 2
theorem sp_bc_le (s : Nat) : sp_bc s ≤ 6 := by unfold sp_bc; omega
theorem z_bc : ∀ s : Nat, s < 64 → z_and (((z_and (((z_and ((↑s) - (z_and (z_ushr (↑s) 1) 1431655765)) 858993459) + (z_and (z_ushr ((↑s) - (z_and (z_ushr (↑s) 1) 1431655765)) 2) 858993459)) + (z_ushr ((z_and ((↑s) - (z_and (z_ushr (↑s) 1) 1431655765)) 858993459) + (z_and (z_ushr ((↑s) - (z_and (z_ushr (↑s) 1) 1431655765)) 2) 858993459)) 4)) 252645135) + (z_ushr (z_and (((z_and ((↑s) - (z_and (z_ushr (↑s) 1) 1431655765)) 858993459) + (z_and (z_ushr ((↑s) - (z_and (z_ushr (↑s) 1) 1431655765)) 2) 858993459)) + (z_ushr ((z_and ((↑s) - (z_and (z_ushr (↑s) 1) 1431655765)) 858993459) + (z_and (z_ushr ((↑s) - (z_and (z_ushr (↑s) 1) 1431655765)) 2) 858993459)) 4)) 252645135) 8)) + (z_ushr ((z_and (((z_and ((↑s) - (z_and (z_ushr (↑s) 1) 1431655765)) 858993459) + (z_and (z_ushr ((↑s) - (z_and (z_ushr (↑s) 1) 1431655765)) 2) 858993459)) + (z_ushr ((z_and ((↑s) - (z_and (z_ushr (↑s) 1) 1431655765)) 858993459) + (z_and (z_ushr ((↑s) - (z_and (z_ushr (↑s) 1) 1431655765)) 2) 858993459)) 4)) 252645135) + (z_ushr (z_and (((z_and ((↑s) - (z_and (z_ushr (↑s) 1) 1431655765)) 858993459) + (z_and (z_ushr ((↑s) - (z_and (z_ushr (↑s) 1) 1431655765)) 2) 858993459)) + (z_ushr ((z_and ((↑s) - (z_and (z_ushr (↑s) 1) 1431655765)) 858993459) + (z_and (z_ushr ((↑s) - (z_and (z_ushr (↑s) 1) 1431655765)) 2) 858993459)) 4)) 252645135) 8)) 16)) 63 = ((sp_bc s : Nat) : Int) := by decide +kernel
theorem z_an : ∀ s : Nat, s < 64 → ∀ a : Nat, a < 6 → z_and (↑s) (z_shl 1 (↑a)) = ((s &&& 2 ^ a : Nat) : Int) ∧ s &&& 2 ^ a < 64 := by decide +kernel
theorem z_os : ∀ s : Nat, s < 64 → ∀ a : Nat, a < 6 → z_or (↑s) (z_shl 1 (↑a)) = ((s ||| 2 ^ a : Nat) : Int) ∧ s ||| 2 ^ a < 64 := by decide +kernel
def sp_wo (s p : Nat) : Nat := s &&& (63 ^^^ p)
theorem z_nt : ∀ s : Nat, s < 64 → ∀ p : Nat, p < 64 → z_and (↑s) (z_xor (↑p) (-1)) = ((sp_wo s p : Nat) : Int) ∧ sp_wo s p < 64 := by decide +kernel
theorem sp_bc_lt : ∀ s : Nat, s < 64 → ∀ p : Nat, p < 64 → sp_wo s p = 0 → s ≠ p → sp_bc s < sp_bc p := by decide +kernel
/-- how many sets of c -/
def sp_pw (c : Nat) : Nat := 2 ^ c
theorem z_pw : ∀ c : Nat, c < 7 → z_shl 1 (↑c) = ((sp_pw c : Nat) : Int) ∧ sp_pw c ≤ 64 := by decide +kernel
/-- the votes of a set -/
def sp_vo (vt : Nat → Int) (s : Nat) : Nat → Int
  | 0 => 0
  | n + 1 => sp_vo vt s n + (if s.testBit n = true then vt n else 0)
theorem sp_vo_bd {vt : Nat → Int} {s n : Nat} (h : ∀ p, p < n → 0 ≤ vt p ∧ vt p ≤ 9) : 0 ≤ sp_vo vt s n ∧ sp_vo vt s n ≤ 9 * n := by
  induction n with
  | zero => simp [sp_vo]
  | succ n ih =>
    have h1 := ih (fun p hp => h p (by omega))
    have h2 := h n (by omega)
    unfold sp_vo
    split <;> omega
def sp_most (vt : Nat → Int) (c p s : Nat) : Bool := decide (sp_vo vt p c < 2 * sp_vo vt s c)
def sp_turn (vt : Nat → Int) (c p a s : Nat) : Bool := decide (p &&& 2 ^ a ≠ 0 ∧ s &&& 2 ^ a = 0 ∧ sp_wo s p = 0) && (!sp_most vt c p s && sp_most vt c p (s ||| 2 ^ a))
/-- how many below n -/
def sp_cnt (f : Nat → Bool) : Nat → Nat
  | 0 => 0
  | n + 1 => sp_cnt f n + (if f n = true then 1 else 0)
theorem sp_cnt_le (f : Nat → Bool) (n : Nat) : sp_cnt f n ≤ n := by
  induction n with
  | zero => exact Nat.le_refl _
  | succ n ih => unfold sp_cnt; split <;> omega
def sp_fa (n : Nat) : Nat := match n with | 0 => 1 | 1 => 1 | 2 => 2 | 3 => 6 | 4 => 24 | 5 => 120 | _ => 720
theorem x_fa : ∀ n, n < 7 → ([1, 1, 2, 6, 24, 120, 720] : List Int)[n]? = some ((sp_fa n : Nat) : Int) := by decide
/-- how many rows are turned below n -/
def sp_rt (vt : Nat → Int) (c p a : Nat) : Nat → Int
  | 0 => 0
  | n + 1 => sp_rt vt c p a n + (if sp_turn vt c p a n = true then (sp_fa (sp_bc n) : Int) * (sp_fa (sp_bc p - 1 - sp_bc n) : Int) else 0)
/-- the votes that like it -/
def sp_lb (lk : Nat → Nat → Int) (vt : Nat → Int) (s a : Nat) : Nat → Int
  | 0 => 0
  | n + 1 => sp_lb lk vt s a n + (if s.testBit n = true then vt n * lk n a else 0)
/-- best and fewest below n -/
def sp_few (lk : Nat → Nat → Int) (vt : Nat → Int) (q : Int) (c p a : Nat) : Nat → Int × Nat
  | 0 => (-5, 7)
  | n + 1 => if sp_bc n < (sp_few lk vt q c p a n).2 ∧ sp_all lk vt q c (sp_wo p n) a 5 = true then ((n : Int), sp_bc n) else sp_few lk vt q c p a n
/-- rings of a b d -/
def sp_ring (B : Nat → Nat → Bool) (a b d : Nat) : Bool := decide (B a b = true ∧ B b d = true ∧ B d a = true) || decide (B a d = true ∧ B d b = true ∧ B b a = true)

theorem sp_few_le {lk : Nat → Nat → Int} {vt : Nat → Int} {q : Int} {c p a : Nat} (n : Nat) : (sp_few lk vt q c p a n).2 ≤ 7 := by
  induction n with
  | zero => exact Nat.le_refl _
  | succ n ih =>
    have := sp_bc_le n
    unfold sp_few
    split
    · show sp_bc n ≤ 7; omega
    · exact ih

theorem ct_In_bitCount {sc : List Int} {I : Nat → Nat → Int} {L : Nat → Nat → Int64} {s : Nat} (hs : s < 64) : x_CE sc 1 xN_In_bitCount [xi (↑s)] (xSH, I, L) (some (xi ((sp_bc s : Nat) : Int))) (xSH, I, L) := by
  refine x_CE.of (M := xM_In_bitCount) rfl (Nat.le_of_ble_eq_true rfl) ?_
  refine ex_st 40 (pc' := 51) (ls' := [(0, xi (((z_and (((z_and ((↑s) - (z_and (z_ushr (↑s) 1) 1431655765)) 858993459) + (z_and (z_ushr ((↑s) - (z_and (z_ushr (↑s) 1) 1431655765)) 2) 858993459)) + (z_ushr ((z_and ((↑s) - (z_and (z_ushr (↑s) 1) 1431655765)) 858993459) + (z_and (z_ushr ((↑s) - (z_and (z_ushr (↑s) 1) 1431655765)) 2) 858993459)) 4)) 252645135) + (z_ushr (z_and (((z_and ((↑s) - (z_and (z_ushr (↑s) 1) 1431655765)) 858993459) + (z_and (z_ushr ((↑s) - (z_and (z_ushr (↑s) 1) 1431655765)) 2) 858993459)) + (z_ushr ((z_and ((↑s) - (z_and (z_ushr (↑s) 1) 1431655765)) 858993459) + (z_and (z_ushr ((↑s) - (z_and (z_ushr (↑s) 1) 1431655765)) 2) 858993459)) 4)) 252645135) 8)) + (z_ushr ((z_and (((z_and ((↑s) - (z_and (z_ushr (↑s) 1) 1431655765)) 858993459) + (z_and (z_ushr ((↑s) - (z_and (z_ushr (↑s) 1) 1431655765)) 2) 858993459)) + (z_ushr ((z_and ((↑s) - (z_and (z_ushr (↑s) 1) 1431655765)) 858993459) + (z_and (z_ushr ((↑s) - (z_and (z_ushr (↑s) 1) 1431655765)) 2) 858993459)) 4)) 252645135) + (z_ushr (z_and (((z_and ((↑s) - (z_and (z_ushr (↑s) 1) 1431655765)) 858993459) + (z_and (z_ushr ((↑s) - (z_and (z_ushr (↑s) 1) 1431655765)) 2) 858993459)) + (z_ushr ((z_and ((↑s) - (z_and (z_ushr (↑s) 1) 1431655765)) 858993459) + (z_and (z_ushr ((↑s) - (z_and (z_ushr (↑s) 1) 1431655765)) 2) 858993459)) 4)) 252645135) 8)) 16)))]) (st' := [xi 63, xi (((z_and (((z_and ((↑s) - (z_and (z_ushr (↑s) 1) 1431655765)) 858993459) + (z_and (z_ushr ((↑s) - (z_and (z_ushr (↑s) 1) 1431655765)) 2) 858993459)) + (z_ushr ((z_and ((↑s) - (z_and (z_ushr (↑s) 1) 1431655765)) 858993459) + (z_and (z_ushr ((↑s) - (z_and (z_ushr (↑s) 1) 1431655765)) 2) 858993459)) 4)) 252645135) + (z_ushr (z_and (((z_and ((↑s) - (z_and (z_ushr (↑s) 1) 1431655765)) 858993459) + (z_and (z_ushr ((↑s) - (z_and (z_ushr (↑s) 1) 1431655765)) 2) 858993459)) + (z_ushr ((z_and ((↑s) - (z_and (z_ushr (↑s) 1) 1431655765)) 858993459) + (z_and (z_ushr ((↑s) - (z_and (z_ushr (↑s) 1) 1431655765)) 2) 858993459)) 4)) 252645135) 8)) + (z_ushr ((z_and (((z_and ((↑s) - (z_and (z_ushr (↑s) 1) 1431655765)) 858993459) + (z_and (z_ushr ((↑s) - (z_and (z_ushr (↑s) 1) 1431655765)) 2) 858993459)) + (z_ushr ((z_and ((↑s) - (z_and (z_ushr (↑s) 1) 1431655765)) 858993459) + (z_and (z_ushr ((↑s) - (z_and (z_ushr (↑s) 1) 1431655765)) 2) 858993459)) 4)) 252645135) + (z_ushr (z_and (((z_and ((↑s) - (z_and (z_ushr (↑s) 1) 1431655765)) 858993459) + (z_and (z_ushr ((↑s) - (z_and (z_ushr (↑s) 1) 1431655765)) 2) 858993459)) + (z_ushr ((z_and ((↑s) - (z_and (z_ushr (↑s) 1) 1431655765)) 858993459) + (z_and (z_ushr ((↑s) - (z_and (z_ushr (↑s) 1) 1431655765)) 2) 858993459)) 4)) 252645135) 8)) 16))]) rfl ?_
  refine ex_st 1 (pc' := 52) (ls' := [(0, xi (((z_and (((z_and ((↑s) - (z_and (z_ushr (↑s) 1) 1431655765)) 858993459) + (z_and (z_ushr ((↑s) - (z_and (z_ushr (↑s) 1) 1431655765)) 2) 858993459)) + (z_ushr ((z_and ((↑s) - (z_and (z_ushr (↑s) 1) 1431655765)) 858993459) + (z_and (z_ushr ((↑s) - (z_and (z_ushr (↑s) 1) 1431655765)) 2) 858993459)) 4)) 252645135) + (z_ushr (z_and (((z_and ((↑s) - (z_and (z_ushr (↑s) 1) 1431655765)) 858993459) + (z_and (z_ushr ((↑s) - (z_and (z_ushr (↑s) 1) 1431655765)) 2) 858993459)) + (z_ushr ((z_and ((↑s) - (z_and (z_ushr (↑s) 1) 1431655765)) 858993459) + (z_and (z_ushr ((↑s) - (z_and (z_ushr (↑s) 1) 1431655765)) 2) 858993459)) 4)) 252645135) 8)) + (z_ushr ((z_and (((z_and ((↑s) - (z_and (z_ushr (↑s) 1) 1431655765)) 858993459) + (z_and (z_ushr ((↑s) - (z_and (z_ushr (↑s) 1) 1431655765)) 2) 858993459)) + (z_ushr ((z_and ((↑s) - (z_and (z_ushr (↑s) 1) 1431655765)) 858993459) + (z_and (z_ushr ((↑s) - (z_and (z_ushr (↑s) 1) 1431655765)) 2) 858993459)) 4)) 252645135) + (z_ushr (z_and (((z_and ((↑s) - (z_and (z_ushr (↑s) 1) 1431655765)) 858993459) + (z_and (z_ushr ((↑s) - (z_and (z_ushr (↑s) 1) 1431655765)) 2) 858993459)) + (z_ushr ((z_and ((↑s) - (z_and (z_ushr (↑s) 1) 1431655765)) 858993459) + (z_and (z_ushr ((↑s) - (z_and (z_ushr (↑s) 1) 1431655765)) 2) 858993459)) 4)) 252645135) 8)) 16)))]) (st' := [xi (z_and (((z_and (((z_and ((↑s) - (z_and (z_ushr (↑s) 1) 1431655765)) 858993459) + (z_and (z_ushr ((↑s) - (z_and (z_ushr (↑s) 1) 1431655765)) 2) 858993459)) + (z_ushr ((z_and ((↑s) - (z_and (z_ushr (↑s) 1) 1431655765)) 858993459) + (z_and (z_ushr ((↑s) - (z_and (z_ushr (↑s) 1) 1431655765)) 2) 858993459)) 4)) 252645135) + (z_ushr (z_and (((z_and ((↑s) - (z_and (z_ushr (↑s) 1) 1431655765)) 858993459) + (z_and (z_ushr ((↑s) - (z_and (z_ushr (↑s) 1) 1431655765)) 2) 858993459)) + (z_ushr ((z_and ((↑s) - (z_and (z_ushr (↑s) 1) 1431655765)) 858993459) + (z_and (z_ushr ((↑s) - (z_and (z_ushr (↑s) 1) 1431655765)) 2) 858993459)) 4)) 252645135) 8)) + (z_ushr ((z_and (((z_and ((↑s) - (z_and (z_ushr (↑s) 1) 1431655765)) 858993459) + (z_and (z_ushr ((↑s) - (z_and (z_ushr (↑s) 1) 1431655765)) 2) 858993459)) + (z_ushr ((z_and ((↑s) - (z_and (z_ushr (↑s) 1) 1431655765)) 858993459) + (z_and (z_ushr ((↑s) - (z_and (z_ushr (↑s) 1) 1431655765)) 2) 858993459)) 4)) 252645135) + (z_ushr (z_and (((z_and ((↑s) - (z_and (z_ushr (↑s) 1) 1431655765)) 858993459) + (z_and (z_ushr ((↑s) - (z_and (z_ushr (↑s) 1) 1431655765)) 2) 858993459)) + (z_ushr ((z_and ((↑s) - (z_and (z_ushr (↑s) 1) 1431655765)) 858993459) + (z_and (z_ushr ((↑s) - (z_and (z_ushr (↑s) 1) 1431655765)) 2) 858993459)) 4)) 252645135) 8)) 16)) 63)]) rfl ?_
  refine ex_reti rfl rfl ?_
  exact ⟨by rw [z_bc s hs], rfl⟩
theorem lp_votesOf {sc : List Int} {I : Nat → Nat → Int} {L : Nat → Nat → Int64} {c : Nat} {lk : Nat → Nat → Int} {vt : Nat → Int} {qv : Int} (hB : BW I c lk vt qv) {s : Nat} (hs : s < 64) (i : Nat) (hi : i ≤ c) (acc : Int) (hacc : acc = sp_vo vt s i) : x_Ex sc 0 xM_B_votesOf 4 [(3, xi (↑i)), (2, xi acc), (0, xr 92), (1, xi (↑s))] [] (xSH, I, L) (fun r m' => r = some (xi (sp_vo vt s c)) ∧ m' = (xSH, I, L)) := by
  obtain ⟨hc, hc6, hl, hv, hq0, hq1, hq2⟩ := id hB
  refine ex_st 3 (pc' := 9) (ls' := [(3, xi (↑i)), (2, xi acc), (0, xr 92), (1, xi (↑s))]) (st' := [xi (I 92 2), xi (↑i)]) rfl ?_
  refine ex_ic rfl (by first | (constructor <;> omega) | (rw [z_bit _ (by omega) _ (by omega)]; split <;> decide)) (by first | (constructor <;> omega) | (rw [z_bit _ (by omega) _ (by omega)]; split <;> decide)) (fun (h0 : (I 92 2) ≤ (↑i : Int)) => ?_) (fun (h0 : ¬ (I 92 2) ≤ (↑i : Int)) => ?_)
  · refine ex_st 1 (pc' := 37) (ls' := [(3, xi (↑i)), (2, xi acc), (0, xr 92), (1, xi (↑s))]) (st' := [xi acc]) rfl ?_
    refine ex_reti rfl rfl ?_
    exact ⟨by rw [hacc, show i = c by omega], rfl⟩
  · refine ex_st 6 (pc' := 18) (ls' := [(3, xi (↑i)), (2, xi acc), (0, xr 92), (1, xi (↑s))]) (st' := [xi 1, xi (z_and (z_shr (↑s) (↑i)) 1)]) rfl ?_
    refine ex_ic rfl (by first | (constructor <;> omega) | (rw [z_bit _ (by omega) _ (by omega)]; split <;> decide)) (by decide) (fun (h1 : ¬ (z_and (z_shr (↑s) (↑i)) 1) = 1) => ?_) (fun (h1 : ¬ ¬ (z_and (z_shr (↑s) (↑i)) 1) = 1) => ?_)
    · refine ex_st 2 (pc' := 4) (ls' := [(3, xi ((↑i) + 1)), (2, xi acc), (0, xr 92), (1, xi (↑s))]) (st' := []) rfl ?_
      refine lp_votesOf hB hs (i + 1) (by omega) (acc) ?_
      have hz := z_bit s hs i (by omega)
      have e3 := (hv i (by omega)).1
      by_cases hbt : s.testBit i = true <;> simp [sp_vo, hbt] at hz ⊢ <;> omega
    · refine ex_st 4 (pc' := 27) (ls' := [(3, xi (↑i)), (2, xi acc), (0, xr 92), (1, xi (↑s))]) (st' := [xi (↑i), xr 100, xi acc]) rfl ?_
      refine ex_iald (j := i) rfl (by decide) (rfl : xSH[100]? = some _) (by omega) (by omega) (by decide) ?_
      refine ex_st 4 (pc' := 4) (ls' := [(3, xi ((↑i) + 1)), (2, xi (acc + (I 100 i))), (0, xr 92), (1, xi (↑s))]) (st' := []) rfl ?_
      refine lp_votesOf hB hs (i + 1) (by omega) (acc + (I 100 i)) ?_
      have hz := z_bit s hs i (by omega)
      have e3 := (hv i (by omega)).1
      by_cases hbt : s.testBit i = true <;> simp [sp_vo, hbt] at hz ⊢ <;> omega
termination_by c - i
decreasing_by all_goals omega
theorem ct_B_votesOf {sc : List Int} {I : Nat → Nat → Int} {L : Nat → Nat → Int64} {c : Nat} {lk : Nat → Nat → Int} {vt : Nat → Int} {qv : Int} (hB : BW I c lk vt qv) {s : Nat} (hs : s < 64) : x_CE sc 1 xN_B_votesOf [xr 92, xi (↑s)] (xSH, I, L) (some (xi (sp_vo vt s c))) (xSH, I, L) := by
  refine x_CE.of (M := xM_B_votesOf) rfl (Nat.le_of_ble_eq_true rfl) ?_
  refine ex_st 4 (pc' := 4) (ls' := [(3, xi 0), (2, xi 0), (0, xr 92), (1, xi (↑s))]) (st' := []) rfl ?_
  exact lp_votesOf hB hs 0 (by omega) 0 rfl
theorem ct_B_isMost {sc : List Int} {I : Nat → Nat → Int} {L : Nat → Nat → Int64} {c : Nat} {lk : Nat → Nat → Int} {vt : Nat → Int} {qv : Int} (hB : BW I c lk vt qv) {p : Nat} (hp6 : p < 64) (hp : I 92 1 = (p : Int)) {s : Nat} (hs : s < 64) : x_CE sc 2 xN_B_isMost [xr 92, xi (↑s)] (xSH, I, L) (some (xi (x_b (sp_most vt c p s = true)))) (xSH, I, L) := by
  obtain ⟨hc, hc6, hl, hv, hq0, hq1, hq2⟩ := id hB
  have g1 := sp_vo_bd (vt := vt) (s := s) (n := c) (fun p hp => (hv p hp).2)
  have g2 := sp_vo_bd (vt := vt) (s := p) (n := c) (fun p hp => (hv p hp).2)
  refine x_CE.of (M := xM_B_isMost) rfl (Nat.le_of_ble_eq_true rfl) ?_
  refine ex_st 3 (pc' := 3) (ls' := [(0, xr 92), (1, xi (↑s))]) (st' := [xi (↑s), xr 92, xi 2]) rfl ?_
  refine ex_call (ct_B_votesOf hB (s := s) (by assumption)) (by decide) rfl ⟨rfl, rfl, rfl⟩ ⟨Nat.le_of_ble_eq_true rfl, rfl, rfl⟩ (Nat.le_of_ble_eq_true rfl) rfl ?_
  refine ex_st 4 (pc' := 12) (ls' := [(0, xr 92), (1, xi (↑s))]) (st' := [xi (I 92 1), xr 92, xi (2 * (sp_vo vt s c))]) rfl ?_
  rw [hp]
  refine ex_call (ct_B_votesOf hB (s := p) (by assumption)) (by decide) rfl ⟨rfl, rfl, rfl⟩ ⟨Nat.le_of_ble_eq_true rfl, rfl, rfl⟩ (Nat.le_of_ble_eq_true rfl) rfl ?_
  refine ex_ic rfl (by constructor <;> omega) (by constructor <;> omega) (fun (h0 : (2 * (sp_vo vt s c)) ≤ (sp_vo vt p c)) => ?_) (fun (h0 : ¬ (2 * (sp_vo vt s c)) ≤ (sp_vo vt p c)) => ?_)
  · refine ex_st 1 (pc' := 23) (ls' := [(0, xr 92), (1, xi (↑s))]) (st' := [xi 0]) rfl ?_
    refine ex_retz rfl (Or.inl rfl) rfl ?_
    exact ⟨by unfold x_b sp_most; first | rw [if_pos (by simp only [decide_eq_true_eq]; omega)] | rw [if_neg (by simp only [decide_eq_true_eq]; omega)], rfl⟩
  · refine ex_st 2 (pc' := 23) (ls' := [(0, xr 92), (1, xi (↑s))]) (st' := [xi 1]) rfl ?_
    refine ex_retz rfl (Or.inr rfl) rfl ?_
    exact ⟨by unfold x_b sp_most; first | rw [if_pos (by simp only [decide_eq_true_eq]; omega)] | rw [if_neg (by simp only [decide_eq_true_eq]; omega)], rfl⟩
theorem ct_B_turns {sc : List Int} {I : Nat → Nat → Int} {L : Nat → Nat → Int64} {c : Nat} {lk : Nat → Nat → Int} {vt : Nat → Int} {qv : Int} (hB : BW I c lk vt qv) {p : Nat} (hp6 : p < 64) (hp : I 92 1 = (p : Int)) {s : Nat} (hs : s < 64) {a : Nat} (ha : a < 6) : x_CE sc 3 xN_B_turns [xr 92, xi (↑a), xi (↑s)] (xSH, I, L) (some (xi (x_b (sp_turn vt c p a s = true)))) (xSH, I, L) := by
  have g1 := (z_an p hp6 a ha).2
  have g2 := (z_an s hs a ha).2
  have g3 := (z_nt s hs p hp6).2
  refine x_CE.of (M := xM_B_turns) rfl (Nat.le_of_ble_eq_true rfl) ?_
  refine ex_st 8 (pc' := 10) (ls' := [(3, xi (z_shl 1 (↑a))), (0, xr 92), (1, xi (↑a)), (2, xi (↑s))]) (st' := [xi (z_and (I 92 1) (z_shl 1 (↑a)))]) rfl ?_
  rw [hp, (z_an p hp6 a ha).1]
  refine ex_if rfl (by constructor <;> omega) (fun (h0 : (↑(p &&& 2 ^ a) : Int) = 0) => ?_) (fun (h0 : ¬ (↑(p &&& 2 ^ a) : Int) = 0) => ?_)
  · refine ex_st 3 (pc' := 39) (ls' := [(4, xi 0), (3, xi (z_shl 1 (↑a))), (0, xr 92), (1, xi (↑a)), (2, xi (↑s))]) (st' := [xi 0]) rfl ?_
    refine ex_st 1 (pc' := 64) (ls' := [(4, xi 0), (3, xi (z_shl 1 (↑a))), (0, xr 92), (1, xi (↑a)), (2, xi (↑s))]) (st' := []) rfl ?_
    refine ex_st 1 (pc' := 65) (ls' := [(4, xi 0), (3, xi (z_shl 1 (↑a))), (0, xr 92), (1, xi (↑a)), (2, xi (↑s))]) (st' := [xi 0]) rfl ?_
    refine ex_retz rfl (Or.inl rfl) rfl ?_
    have e9 : sp_turn vt c p a s = false := by
      unfold sp_turn
      simp_all
    exact ⟨by unfold x_b; rw [e9]; rfl, rfl⟩
  · refine ex_st 3 (pc' := 16) (ls' := [(3, xi (z_shl 1 (↑a))), (0, xr 92), (1, xi (↑a)), (2, xi (↑s))]) (st' := [xi (z_and (↑s) (z_shl 1 (↑a)))]) rfl ?_
    rw [(z_an s hs a ha).1]
    refine ex_if rfl (by constructor <;> omega) (fun (h1 : ¬ (↑(s &&& 2 ^ a) : Int) = 0) => ?_) (fun (h1 : ¬ ¬ (↑(s &&& 2 ^ a) : Int) = 0) => ?_)
    · refine ex_st 3 (pc' := 39) (ls' := [(4, xi 0), (3, xi (z_shl 1 (↑a))), (0, xr 92), (1, xi (↑a)), (2, xi (↑s))]) (st' := [xi 0]) rfl ?_
      refine ex_st 1 (pc' := 64) (ls' := [(4, xi 0), (3, xi (z_shl 1 (↑a))), (0, xr 92), (1, xi (↑a)), (2, xi (↑s))]) (st' := []) rfl ?_
      refine ex_st 1 (pc' := 65) (ls' := [(4, xi 0), (3, xi (z_shl 1 (↑a))), (0, xr 92), (1, xi (↑a)), (2, xi (↑s))]) (st' := [xi 0]) rfl ?_
      refine ex_retz rfl (Or.inl rfl) rfl ?_
      have e9 : sp_turn vt c p a s = false := by
        unfold sp_turn
        simp_all
      exact ⟨by unfold x_b; rw [e9]; rfl, rfl⟩
    · refine ex_st 6 (pc' := 27) (ls' := [(3, xi (z_shl 1 (↑a))), (0, xr 92), (1, xi (↑a)), (2, xi (↑s))]) (st' := [xi (z_and (↑s) (z_xor (I 92 1) (-1)))]) rfl ?_
      rw [hp, (z_nt s hs p hp6).1]
      refine ex_if rfl (by constructor <;> omega) (fun (h2 : ¬ (↑(sp_wo s p) : Int) = 0) => ?_) (fun (h2 : ¬ ¬ (↑(sp_wo s p) : Int) = 0) => ?_)
      · refine ex_st 3 (pc' := 39) (ls' := [(4, xi 0), (3, xi (z_shl 1 (↑a))), (0, xr 92), (1, xi (↑a)), (2, xi (↑s))]) (st' := [xi 0]) rfl ?_
        refine ex_st 1 (pc' := 64) (ls' := [(4, xi 0), (3, xi (z_shl 1 (↑a))), (0, xr 92), (1, xi (↑a)), (2, xi (↑s))]) (st' := []) rfl ?_
        refine ex_st 1 (pc' := 65) (ls' := [(4, xi 0), (3, xi (z_shl 1 (↑a))), (0, xr 92), (1, xi (↑a)), (2, xi (↑s))]) (st' := [xi 0]) rfl ?_
        refine ex_retz rfl (Or.inl rfl) rfl ?_
        have e9 : sp_turn vt c p a s = false := by
          unfold sp_turn
          simp_all
        exact ⟨by unfold x_b; rw [e9]; rfl, rfl⟩
      · refine ex_st 4 (pc' := 39) (ls' := [(4, xi 1), (3, xi (z_shl 1 (↑a))), (0, xr 92), (1, xi (↑a)), (2, xi (↑s))]) (st' := [xi 1]) rfl ?_
        refine ex_st 1 (pc' := 42) (ls' := [(4, xi 1), (3, xi (z_shl 1 (↑a))), (0, xr 92), (1, xi (↑a)), (2, xi (↑s))]) (st' := []) rfl ?_
        refine ex_st 2 (pc' := 44) (ls' := [(4, xi 1), (3, xi (z_shl 1 (↑a))), (0, xr 92), (1, xi (↑a)), (2, xi (↑s))]) (st' := [xi (↑s), xr 92]) rfl ?_
        refine ex_call (ct_B_isMost hB hp6 hp hs) (by decide) rfl ⟨rfl, rfl, rfl⟩ ⟨Nat.le_of_ble_eq_true rfl, rfl, rfl⟩ (Nat.le_of_ble_eq_true rfl) rfl ?_
        refine ex_bne rfl (fun h3 => ?_) (fun h3 => ?_)
        · refine ex_st 1 (pc' := 65) (ls' := [(4, xi 1), (3, xi (z_shl 1 (↑a))), (0, xr 92), (1, xi (↑a)), (2, xi (↑s))]) (st' := [xi 0]) rfl ?_
          refine ex_retz rfl (Or.inl rfl) rfl ?_
          have e9 : sp_turn vt c p a s = false := by
            unfold sp_turn
            simp_all
          exact ⟨by unfold x_b; rw [e9]; rfl, rfl⟩
        · refine ex_st 4 (pc' := 54) (ls' := [(4, xi 1), (3, xi (z_shl 1 (↑a))), (0, xr 92), (1, xi (↑a)), (2, xi (↑s))]) (st' := [xi (z_or (↑s) (z_shl 1 (↑a))), xr 92]) rfl ?_
          rw [(z_os s hs a ha).1]
          refine ex_call (ct_B_isMost hB hp6 hp (z_os s hs a ha).2) (by decide) rfl ⟨rfl, rfl, rfl⟩ ⟨Nat.le_of_ble_eq_true rfl, rfl, rfl⟩ (Nat.le_of_ble_eq_true rfl) rfl ?_
          refine ex_beq rfl (fun h4 => ?_) (fun h4 => ?_)
          · refine ex_st 1 (pc' := 65) (ls' := [(4, xi 1), (3, xi (z_shl 1 (↑a))), (0, xr 92), (1, xi (↑a)), (2, xi (↑s))]) (st' := [xi 0]) rfl ?_
            refine ex_retz rfl (Or.inl rfl) rfl ?_
            have e9 : sp_turn vt c p a s = false := by
              unfold sp_turn
              simp_all
            exact ⟨by unfold x_b; rw [e9]; rfl, rfl⟩
          · refine ex_st 2 (pc' := 65) (ls' := [(4, xi 1), (3, xi (z_shl 1 (↑a))), (0, xr 92), (1, xi (↑a)), (2, xi (↑s))]) (st' := [xi 1]) rfl ?_
            refine ex_retz rfl (Or.inr rfl) rfl ?_
            have e9 : sp_turn vt c p a s = true := by
              unfold sp_turn
              simp_all
            exact ⟨by unfold x_b; rw [e9]; rfl, rfl⟩
theorem lp_setsT {sc : List Int} {I : Nat → Nat → Int} {L : Nat → Nat → Int64} {c : Nat} {lk : Nat → Nat → Int} {vt : Nat → Int} {qv : Int} (hB : BW I c lk vt qv) {p : Nat} (hp6 : p < 64) (hp : I 92 1 = (p : Int)) {a : Nat} (ha : a < 6) (i : Nat) (hi : i ≤ sp_pw c) : x_Ex sc 3 xM_B_setsTurnedBy 4 [(3, xi (↑i)), (2, xi (↑(sp_cnt (sp_turn vt c p a) i))), (0, xr 92), (1, xi (↑a))] [] (xSH, I, L) (fun r m' => r = (some (xi ((sp_cnt (sp_turn vt c p a) (sp_pw c) : Nat) : Int))) ∧ m' = (xSH, I, L)) := by
  obtain ⟨hc, hc6, hl, hv, hq0, hq1, hq2⟩ := id hB
  obtain ⟨hpw, hpw6⟩ := z_pw c (by omega)
  refine ex_st 5 (pc' := 11) (ls' := [(3, xi (↑i)), (2, xi (↑(sp_cnt (sp_turn vt c p a) i))), (0, xr 92), (1, xi (↑a))]) (st' := [xi (z_shl 1 (I 92 2)), xi (↑i)]) rfl ?_
  rw [hc, hpw]
  refine ex_ic rfl (by constructor <;> omega) (by constructor <;> omega) (fun (h0 : (↑(sp_pw c) : Int) ≤ (↑i : Int)) => ?_) (fun (h0 : ¬ (↑(sp_pw c) : Int) ≤ (↑i : Int)) => ?_)
  · refine ex_st 1 (pc' := 33) (ls' := [(3, xi (↑i)), (2, xi (↑(sp_cnt (sp_turn vt c p a) i))), (0, xr 92), (1, xi (↑a))]) (st' := [xi (↑(sp_cnt (sp_turn vt c p a) i))]) rfl ?_
    refine ex_reti rfl rfl ?_
    exact ⟨by rw [show i = sp_pw c by omega], rfl⟩
  · refine ex_st 3 (pc' := 17) (ls' := [(3, xi (↑i)), (2, xi (↑(sp_cnt (sp_turn vt c p a) i))), (0, xr 92), (1, xi (↑a))]) (st' := [xi (↑i), xi (↑a), xr 92]) rfl ?_
    refine ex_call (ct_B_turns hB hp6 hp (s := i) (by omega) ha) (by decide) rfl ⟨rfl, rfl, rfl⟩ ⟨Nat.le_of_ble_eq_true rfl, rfl, rfl⟩ (Nat.le_of_ble_eq_true rfl) rfl ?_
    refine ex_beq rfl (fun h1 => ?_) (fun h1 => ?_)
    · refine ex_st 2 (pc' := 4) (ls' := [(3, xi ((↑i) + 1)), (2, xi (↑(sp_cnt (sp_turn vt c p a) i))), (0, xr 92), (1, xi (↑a))]) (st' := []) rfl ?_
      have h9 := lp_setsT (sc := sc) (L := L) hB hp6 hp ha (i + 1) (by omega)
      rw [show sp_cnt (sp_turn vt c p a) (i + 1) = sp_cnt (sp_turn vt c p a) i from by show _ + _ = _; rw [if_neg (by assumption)]; rfl] at h9
      exact h9
    · refine ex_st 3 (pc' := 4) (ls' := [(3, xi ((↑i) + 1)), (2, xi ((↑(sp_cnt (sp_turn vt c p a) i)) + 1)), (0, xr 92), (1, xi (↑a))]) (st' := []) rfl ?_
      have h9 := lp_setsT (sc := sc) (L := L) hB hp6 hp ha (i + 1) (by omega)
      rw [show sp_cnt (sp_turn vt c p a) (i + 1) = sp_cnt (sp_turn vt c p a) i + 1 from by show _ + _ = _; rw [if_pos (by assumption)]] at h9
      exact h9
termination_by sp_pw c - i
decreasing_by all_goals omega
theorem ct_B_setsTurnedBy {sc : List Int} {I : Nat → Nat → Int} {L : Nat → Nat → Int64} {c : Nat} {lk : Nat → Nat → Int} {vt : Nat → Int} {qv : Int} (hB : BW I c lk vt qv) {p : Nat} (hp6 : p < 64) (hp : I 92 1 = (p : Int)) {a : Nat} (ha : a < 6) : x_CE sc 4 xN_B_setsTurnedBy [xr 92, xi (↑a)] (xSH, I, L) (some (xi ((sp_cnt (sp_turn vt c p a) (sp_pw c) : Nat) : Int))) (xSH, I, L) := by
  refine x_CE.of (M := xM_B_setsTurnedBy) rfl (Nat.le_of_ble_eq_true rfl) ?_
  refine ex_st 4 (pc' := 4) (ls' := [(3, xi 0), (2, xi 0), (0, xr 92), (1, xi (↑a))]) (st' := []) rfl ?_
  exact lp_setsT hB hp6 hp ha 0 (by omega)
theorem lp_rowsT {sc : List Int} {I : Nat → Nat → Int} {L : Nat → Nat → Int64} {c : Nat} {lk : Nat → Nat → Int} {vt : Nat → Int} {qv : Int} (hB : BW I c lk vt qv) {p : Nat} (hp6 : p < 64) (hp : I 92 1 = (p : Int)) {a : Nat} (ha : a < 6) (i : Nat) (hi : i ≤ sp_pw c) (acc : Int) (hacc : acc = sp_rt vt c p a i) : x_Ex sc 3 xM_B_rowsTurnedBy 13 [(4, xi (↑i)), (3, xi acc), (2, xi (↑(sp_bc p))), (0, xr 92), (1, xi (↑a))] [] (xSH, I, L) (fun r m' => r = (some (xi (sp_rt vt c p a (sp_pw c)))) ∧ m' = (xSH, I, L)) := by
  obtain ⟨hc, hc6, hl, hv, hq0, hq1, hq2⟩ := id hB
  obtain ⟨hpw, hpw6⟩ := z_pw c (by omega)
  refine ex_st 5 (pc' := 21) (ls' := [(4, xi (↑i)), (3, xi acc), (2, xi (↑(sp_bc p))), (0, xr 92), (1, xi (↑a))]) (st' := [xi (z_shl 1 (I 92 2)), xi (↑i)]) rfl ?_
  rw [hc, hpw]
  refine ex_ic rfl (by constructor <;> omega) (by constructor <;> omega) (fun (h0 : (↑(sp_pw c) : Int) ≤ (↑i : Int)) => ?_) (fun (h0 : ¬ (↑(sp_pw c) : Int) ≤ (↑i : Int)) => ?_)
  · refine ex_st 1 (pc' := 68) (ls' := [(4, xi (↑i)), (3, xi acc), (2, xi (↑(sp_bc p))), (0, xr 92), (1, xi (↑a))]) (st' := [xi acc]) rfl ?_
    refine ex_reti rfl rfl ?_
    exact ⟨by rw [hacc, show i = sp_pw c by omega], rfl⟩
  · refine ex_st 3 (pc' := 28) (ls' := [(4, xi (↑i)), (3, xi acc), (2, xi (↑(sp_bc p))), (0, xr 92), (1, xi (↑a))]) (st' := [xi (↑i), xi (↑a), xr 92]) rfl ?_
    refine ex_call (ct_B_turns hB hp6 hp (s := i) (by omega) ha) (by decide) rfl ⟨rfl, rfl, rfl⟩ ⟨Nat.le_of_ble_eq_true rfl, rfl, rfl⟩ (Nat.le_of_ble_eq_true rfl) rfl ?_
    refine ex_beq rfl (fun h1 => ?_) (fun h1 => ?_)
    · refine ex_st 2 (pc' := 13) (ls' := [(4, xi ((↑i) + 1)), (3, xi acc), (2, xi (↑(sp_bc p))), (0, xr 92), (1, xi (↑a))]) (st' := []) rfl ?_
      have h9 := lp_rowsT (sc := sc) (L := L) hB hp6 hp ha (i + 1) (by omega) acc (by unfold sp_rt; rw [if_neg (by assumption), hacc, Int.add_zero])
      exact ex_pm _ (fun i => by rcases i with _ | _ | _ | _ | _ | _ | _ | _ | _ | i <;> first | (right; rfl) | (left; rfl)) h9
    · have hlt : sp_bc i < sp_bc p := by
        have h8 : sp_turn vt c p a i = true := by assumption
        simp only [sp_turn, Bool.and_eq_true, decide_eq_true_eq] at h8
        exact sp_bc_lt i (by omega) p hp6 h8.1.2.2 (fun e => by subst e; exact h8.1.1 h8.1.2.1)
      have hle := sp_bc_le p
      refine ex_st 1 (pc' := 36) (ls' := [(4, xi (↑i)), (3, xi acc), (2, xi (↑(sp_bc p))), (0, xr 92), (1, xi (↑a))]) (st' := [xi (↑i)]) rfl ?_
      refine ex_call (ct_In_bitCount (s := i) (by omega)) (by decide) rfl ⟨rfl, rfl, rfl⟩ ⟨Nat.le_of_ble_eq_true rfl, rfl, rfl⟩ (Nat.le_of_ble_eq_true rfl) rfl ?_
      refine ex_st 4 (pc' := 47) (ls' := [(5, xi (↑(sp_bc i))), (4, xi (↑i)), (3, xi acc), (2, xi (↑(sp_bc p))), (0, xr 92), (1, xi (↑a))]) (st' := [xi (↑(sp_bc i)), xr 1002, xi acc]) rfl ?_
      refine ex_cald (v := ↑(sp_fa ((sp_bc i)))) (j := ((sp_bc i))) rfl (by decide) rfl (by first | omega | (show _ < 7; omega)) (by first | omega | (show _ < 7; omega)) (by decide) (x_fa ((sp_bc i)) (by omega)) ?_
      refine ex_st 6 (pc' := 57) (ls' := [(5, xi (↑(sp_bc i))), (4, xi (↑i)), (3, xi acc), (2, xi (↑(sp_bc p))), (0, xr 92), (1, xi (↑a))]) (st' := [xi (((↑(sp_bc p)) - 1) - (↑(sp_bc i))), xr 1002, xi (↑(sp_fa ((sp_bc i)))), xi acc]) rfl ?_
      refine ex_cald (v := ↑(sp_fa ((((sp_bc p)) - 1) - ((sp_bc i))))) (j := ((((sp_bc p)) - 1) - ((sp_bc i)))) rfl (by decide) rfl (by first | omega | (show _ < 7; omega)) (by first | omega | (show _ < 7; omega)) (by decide) (x_fa ((((sp_bc p)) - 1) - ((sp_bc i))) (by omega)) ?_
      refine ex_st 5 (pc' := 13) (ls' := [(4, xi ((↑i) + 1)), (3, xi (acc + ((↑(sp_fa ((sp_bc i)))) * (↑(sp_fa ((((sp_bc p)) - 1) - ((sp_bc i)))))))), (5, xi (↑(sp_bc i))), (2, xi (↑(sp_bc p))), (0, xr 92), (1, xi (↑a))]) (st' := []) rfl ?_
      have h9 := lp_rowsT (sc := sc) (L := L) hB hp6 hp ha (i + 1) (by omega) (acc + ((↑(sp_fa ((sp_bc i)))) * (↑(sp_fa ((((sp_bc p)) - 1) - ((sp_bc i))))))) (by unfold sp_rt; rw [if_pos (by assumption), hacc])
      exact ex_pm _ (fun i => by rcases i with _ | _ | _ | _ | _ | _ | _ | _ | _ | i <;> first | (right; rfl) | (left; rfl)) h9
termination_by sp_pw c - i
decreasing_by all_goals omega
theorem ct_B_rowsTurnedBy {sc : List Int} {I : Nat → Nat → Int} {L : Nat → Nat → Int64} {c : Nat} {lk : Nat → Nat → Int} {vt : Nat → Int} {qv : Int} (hB : BW I c lk vt qv) {p : Nat} (hp6 : p < 64) (hp : I 92 1 = (p : Int)) {a : Nat} (ha : a < 6) : x_CE sc 4 xN_B_rowsTurnedBy [xr 92, xi (↑a)] (xSH, I, L) (some (xi (sp_rt vt c p a (sp_pw c)))) (xSH, I, L) := by
  refine x_CE.of (M := xM_B_rowsTurnedBy) rfl (Nat.le_of_ble_eq_true rfl) ?_
  refine ex_st 2 (pc' := 4) (ls' := [(0, xr 92), (1, xi (↑a))]) (st' := [xi (I 92 1)]) rfl ?_
  rw [hp]
  refine ex_call (ct_In_bitCount (s := p) (by omega)) (by decide) rfl ⟨rfl, rfl, rfl⟩ ⟨Nat.le_of_ble_eq_true rfl, rfl, rfl⟩ (Nat.le_of_ble_eq_true rfl) rfl ?_
  refine ex_st 5 (pc' := 13) (ls' := [(4, xi 0), (3, xi 0), (2, xi (↑(sp_bc p))), (0, xr 92), (1, xi (↑a))]) (st' := []) rfl ?_
  exact lp_rowsT hB hp6 hp ha 0 (by omega) 0 rfl
theorem lp_likedBy {sc : List Int} {I : Nat → Nat → Int} {L : Nat → Nat → Int64} {c : Nat} {lk : Nat → Nat → Int} {vt : Nat → Int} {qv : Int} (hB : BW I c lk vt qv) {p : Nat} (hp6 : p < 64) (hp : I 92 1 = (p : Int)) {a : Nat} (ha : a < 5) (i : Nat) (hi : i ≤ c) (acc : Int) (hacc : acc = sp_lb lk vt p a i) : x_Ex sc 0 xM_B_likedByVotes 4 [(3, xi (↑i)), (2, xi acc), (0, xr 92), (1, xi (↑a))] [] (xSH, I, L) (fun r m' => r = (some (xi (sp_lb lk vt p a c))) ∧ m' = (xSH, I, L)) := by
  obtain ⟨hc, hc6, hl, hv, hq0, hq1, hq2⟩ := id hB
  refine ex_st 3 (pc' := 9) (ls' := [(3, xi (↑i)), (2, xi acc), (0, xr 92), (1, xi (↑a))]) (st' := [xi (I 92 2), xi (↑i)]) rfl ?_
  refine ex_ic rfl (by first | (constructor <;> omega) | (rw [hp, z_bit _ hp6 _ (by omega)]; split <;> decide)) (by first | (constructor <;> omega) | (rw [hp, z_bit _ hp6 _ (by omega)]; split <;> decide)) (fun (h0 : (I 92 2) ≤ (↑i : Int)) => ?_) (fun (h0 : ¬ (I 92 2) ≤ (↑i : Int)) => ?_)
  · refine ex_st 1 (pc' := 49) (ls' := [(3, xi (↑i)), (2, xi acc), (0, xr 92), (1, xi (↑a))]) (st' := [xi acc]) rfl ?_
    refine ex_reti rfl rfl ?_
    exact ⟨by rw [hacc, show i = c by omega], rfl⟩
  · refine ex_st 7 (pc' := 21) (ls' := [(3, xi (↑i)), (2, xi acc), (0, xr 92), (1, xi (↑a))]) (st' := [xi 1, xi (z_and (z_shr (I 92 1) (↑i)) 1)]) rfl ?_
    refine ex_ic rfl (by first | (constructor <;> omega) | (rw [hp, z_bit _ hp6 _ (by omega)]; split <;> decide)) (by decide) (fun (h1 : ¬ (z_and (z_shr (I 92 1) (↑i)) 1) = 1) => ?_) (fun (h1 : ¬ ¬ (z_and (z_shr (I 92 1) (↑i)) 1) = 1) => ?_)
    · refine ex_st 2 (pc' := 4) (ls' := [(3, xi ((↑i) + 1)), (2, xi acc), (0, xr 92), (1, xi (↑a))]) (st' := []) rfl ?_
      refine lp_likedBy hB hp6 hp ha (i + 1) (by omega) (acc) ?_
      have hz := z_bit p hp6 i (by omega)
      rw [← hp] at hz
      have e2 := (hl i a (by omega) ha).1
      have e3 := (hv i (by omega)).1
      unfold sp_lb
      by_cases hbt : p.testBit i = true
      · rw [if_pos hbt] at hz ⊢
        first | (rw [hacc, e2, e3]; done) | (exfalso; omega)
      · rw [if_neg hbt] at hz ⊢
        first | (rw [hacc, Int.add_zero]; done) | (exfalso; omega)
    · refine ex_st 4 (pc' := 30) (ls' := [(3, xi (↑i)), (2, xi acc), (0, xr 92), (1, xi (↑a))]) (st' := [xi (↑i), xr 100, xi acc]) rfl ?_
      refine ex_iald (j := i) rfl (by decide) (rfl : xSH[100]? = some _) (by omega) (by omega) (by decide) ?_
      refine ex_st 3 (pc' := 36) (ls' := [(3, xi (↑i)), (2, xi acc), (0, xr 92), (1, xi (↑a))]) (st' := [xi (↑i), xr 93, xi (I 100 i), xi acc]) rfl ?_
      refine ex_aald (q := 94 + i) (j := i) rfl (by decide) (rfl : xSH[93]? = some _) (by decide) (by omega) (by omega) (by decide) (x_aa93 i (by omega)) (by omega) ?_
      refine ex_st 1 (pc' := 38) (ls' := [(3, xi (↑i)), (2, xi acc), (0, xr 92), (1, xi (↑a))]) (st' := [xi (↑a), xr (94 + i), xi (I 100 i), xi acc]) rfl ?_
      refine ex_iald (j := a) rfl (by omega) (x_sh94 i (by omega)) (by omega) (by omega) (by decide) ?_
      refine ex_st 5 (pc' := 4) (ls' := [(3, xi ((↑i) + 1)), (2, xi (acc + ((I 100 i) * (I (94 + i) a)))), (0, xr 92), (1, xi (↑a))]) (st' := []) rfl ?_
      refine lp_likedBy hB hp6 hp ha (i + 1) (by omega) (acc + ((I 100 i) * (I (94 + i) a))) ?_
      have hz := z_bit p hp6 i (by omega)
      rw [← hp] at hz
      have e2 := (hl i a (by omega) ha).1
      have e3 := (hv i (by omega)).1
      unfold sp_lb
      by_cases hbt : p.testBit i = true
      · rw [if_pos hbt] at hz ⊢
        first | (rw [hacc, e2, e3]; done) | (exfalso; omega)
      · rw [if_neg hbt] at hz ⊢
        first | (rw [hacc, Int.add_zero]; done) | (exfalso; omega)
termination_by c - i
decreasing_by all_goals omega
theorem ct_B_likedByVotes {sc : List Int} {I : Nat → Nat → Int} {L : Nat → Nat → Int64} {c : Nat} {lk : Nat → Nat → Int} {vt : Nat → Int} {qv : Int} (hB : BW I c lk vt qv) {p : Nat} (hp6 : p < 64) (hp : I 92 1 = (p : Int)) {a : Nat} (ha : a < 5) : x_CE sc 1 xN_B_likedByVotes [xr 92, xi (↑a)] (xSH, I, L) (some (xi (sp_lb lk vt p a c))) (xSH, I, L) := by
  refine x_CE.of (M := xM_B_likedByVotes) rfl (Nat.le_of_ble_eq_true rfl) ?_
  refine ex_st 4 (pc' := 4) (ls' := [(3, xi 0), (2, xi 0), (0, xr 92), (1, xi (↑a))]) (st' := []) rfl ?_
  exact lp_likedBy hB hp6 hp ha 0 (by omega) 0 rfl
theorem lp_few {sc : List Int} {I : Nat → Nat → Int} {L : Nat → Nat → Int64} {c : Nat} {lk : Nat → Nat → Int} {vt : Nat → Int} {qv : Int} (hB : BW I c lk vt qv) {p : Nat} (hp6 : p < 64) (hp : I 92 1 = (p : Int)) {a : Nat} (ha : a < 5) (i : Nat) (hi : i ≤ sp_pw c) (b : Int) (f : Nat) (hb : b = (sp_few lk vt qv c p a i).1) (hf : f = (sp_few lk vt qv c p a i).2) : x_Ex sc 3 xM_B_fewestToSendAway 9 [(4, xi (↑i)), (3, xi (↑f)), (2, xi b), (0, xr 92), (1, xi (↑a))] [] (xSH, I, L) (fun r m' => r = (some (xi (sp_few lk vt qv c p a (sp_pw c)).1)) ∧ m' = (xSH, I, L)) := by
  obtain ⟨hc, hc6, hl, hv, hq0, hq1, hq2⟩ := id hB
  obtain ⟨hpw, hpw6⟩ := z_pw c (by omega)
  have hf7 := sp_few_le (lk := lk) (vt := vt) (q := qv) (c := c) (p := p) (a := a) i
  have hbc := sp_bc_le i
  refine ex_st 5 (pc' := 17) (ls' := [(4, xi (↑i)), (3, xi (↑f)), (2, xi b), (0, xr 92), (1, xi (↑a))]) (st' := [xi (z_shl 1 (I 92 2)), xi (↑i)]) rfl ?_
  rw [hc, hpw]
  refine ex_ic rfl (by constructor <;> omega) (by constructor <;> omega) (fun (h0 : (↑(sp_pw c) : Int) ≤ (↑i : Int)) => ?_) (fun (h0 : ¬ (↑(sp_pw c) : Int) ≤ (↑i : Int)) => ?_)
  · refine ex_st 1 (pc' := 63) (ls' := [(4, xi (↑i)), (3, xi (↑f)), (2, xi b), (0, xr 92), (1, xi (↑a))]) (st' := [xi b]) rfl ?_
    refine ex_reti rfl rfl ?_
    exact ⟨by rw [hb, show i = sp_pw c by omega], rfl⟩
  · refine ex_st 1 (pc' := 22) (ls' := [(4, xi (↑i)), (3, xi (↑f)), (2, xi b), (0, xr 92), (1, xi (↑a))]) (st' := [xi (↑i)]) rfl ?_
    refine ex_call (ct_In_bitCount (s := i) (by omega)) (by decide) rfl ⟨rfl, rfl, rfl⟩ ⟨Nat.le_of_ble_eq_true rfl, rfl, rfl⟩ (Nat.le_of_ble_eq_true rfl) rfl ?_
    refine ex_st 3 (pc' := 30) (ls' := [(5, xi (↑(sp_bc i))), (4, xi (↑i)), (3, xi (↑f)), (2, xi b), (0, xr 92), (1, xi (↑a))]) (st' := [xi (↑f), xi (↑(sp_bc i))]) rfl ?_
    refine ex_ic rfl (by constructor <;> omega) (by constructor <;> omega) (fun (h1 : (↑f : Int) ≤ (↑(sp_bc i) : Int)) => ?_) (fun (h1 : ¬ (↑f : Int) ≤ (↑(sp_bc i) : Int)) => ?_)
    · refine ex_st 2 (pc' := 9) (ls' := [(4, xi ((↑i) + 1)), (5, xi (↑(sp_bc i))), (3, xi (↑f)), (2, xi b), (0, xr 92), (1, xi (↑a))]) (st' := []) rfl ?_
      have h9 := lp_few (sc := sc) (L := L) hB hp6 hp ha (i + 1) (by omega) b f (by unfold sp_few; rw [if_neg (by rw [← hf]; first | (intro h8; omega) | (intro h8; exact absurd h8.2 (by assumption)))]; exact hb) (by unfold sp_few; rw [if_neg (by rw [← hf]; first | (intro h8; omega) | (intro h8; exact absurd h8.2 (by assumption)))]; exact hf)
      exact ex_pm _ (fun i => by rcases i with _ | _ | _ | _ | _ | _ | _ | _ | _ | i <;> first | (right; rfl) | (left; rfl)) h9
    · refine ex_st 8 (pc' := 44) (ls' := [(5, xi (↑(sp_bc i))), (4, xi (↑i)), (3, xi (↑f)), (2, xi b), (0, xr 92), (1, xi (↑a))]) (st' := [xi (z_and (I 92 1) (z_xor (↑i) (-1))), xi (↑a), xr 92]) rfl ?_
      rw [hp, (z_nt p hp6 i (by omega)).1]
      refine ex_call (ct_B_leadsAll hB (a := a) (s := sp_wo p i) ha (z_nt p hp6 i (by omega)).2) (by decide) rfl ⟨rfl, rfl, rfl⟩ ⟨Nat.le_of_ble_eq_true rfl, rfl, rfl⟩ (Nat.le_of_ble_eq_true rfl) rfl ?_
      refine ex_beq rfl (fun h2 => ?_) (fun h2 => ?_)
      · refine ex_st 2 (pc' := 9) (ls' := [(4, xi ((↑i) + 1)), (5, xi (↑(sp_bc i))), (3, xi (↑f)), (2, xi b), (0, xr 92), (1, xi (↑a))]) (st' := []) rfl ?_
        have h9 := lp_few (sc := sc) (L := L) hB hp6 hp ha (i + 1) (by omega) b f (by unfold sp_few; rw [if_neg (by rw [← hf]; first | (intro h8; omega) | (intro h8; exact absurd h8.2 (by assumption)))]; exact hb) (by unfold sp_few; rw [if_neg (by rw [← hf]; first | (intro h8; omega) | (intro h8; exact absurd h8.2 (by assumption)))]; exact hf)
        exact ex_pm _ (fun i => by rcases i with _ | _ | _ | _ | _ | _ | _ | _ | _ | i <;> first | (right; rfl) | (left; rfl)) h9
      · refine ex_st 6 (pc' := 9) (ls' := [(4, xi ((↑i) + 1)), (3, xi (↑(sp_bc i))), (2, xi (↑i)), (5, xi (↑(sp_bc i))), (0, xr 92), (1, xi (↑a))]) (st' := []) rfl ?_
        have h9 := lp_few (sc := sc) (L := L) hB hp6 hp ha (i + 1) (by omega) (↑i) (sp_bc i) (by unfold sp_few; rw [if_pos ⟨by rw [← hf]; omega, by assumption⟩]) (by unfold sp_few; rw [if_pos ⟨by rw [← hf]; omega, by assumption⟩])
        exact ex_pm _ (fun i => by rcases i with _ | _ | _ | _ | _ | _ | _ | _ | _ | i <;> first | (right; rfl) | (left; rfl)) h9
termination_by sp_pw c - i
decreasing_by all_goals omega
theorem ct_B_fewestToSendAway {sc : List Int} {I : Nat → Nat → Int} {L : Nat → Nat → Int64} {c : Nat} {lk : Nat → Nat → Int} {vt : Nat → Int} {qv : Int} (hB : BW I c lk vt qv) {p : Nat} (hp6 : p < 64) (hp : I 92 1 = (p : Int)) {a : Nat} (ha : a < 5) : x_CE sc 4 xN_B_fewestToSendAway [xr 92, xi (↑a)] (xSH, I, L) (some (xi (sp_few lk vt qv c p a (sp_pw c)).1)) (xSH, I, L) := by
  refine x_CE.of (M := xM_B_fewestToSendAway) rfl (Nat.le_of_ble_eq_true rfl) ?_
  refine ex_st 6 (pc' := 9) (ls' := [(4, xi 0), (3, xi 7), (2, xi (-5)), (0, xr 92), (1, xi (↑a))]) (st' := []) rfl ?_
  exact lp_few hB hp6 hp ha 0 (by omega) (-5) 7 rfl rfl
