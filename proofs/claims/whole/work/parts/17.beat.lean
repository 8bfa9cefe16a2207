/-! Ballot: what beats what -/
/-- what beats what by the ballot -/
def sp_bt (lk : Nat → Nat → Int) (vt : Nat → Int) (q : Int) (c s : Nat) (a b : Nat) : Bool := sp_lead lk vt q c s a b
def BQ (I : Nat → Nat → Int) (L : Nat → Nat → Int64) (F : Nat → Nat → Bool) : Option xPV → xMem → Prop := fun r m' => r = none ∧ ∃ I', m' = (xSH, I', L) ∧ (∀ k j, k ≠ 101 → I' k j = I k j) ∧ ∀ a, a < 5 → I' 101 a = sp_mask (F a) 5

theorem lp_wtI {sc : List Int} {I : Nat → Nat → Int} {L : Nat → Nat → Int64} {c : Nat} {lk : Nat → Nat → Int} {vt : Nat → Int} {qv : Int} (hB : BW I c lk vt qv) {s : Nat} (hs : s < 64) (hp : I 92 1 = (s : Int)) {I1 : Nat → Nat → Int} (hF : ∀ k j, k ≠ 101 → I1 k j = I k j) {a : Nat} (ha : a < 5) (i : Nat) (hi : i ≤ 5) (hm : I1 101 a = sp_mask ((sp_bt lk vt qv c s) a) i) (hd : ∀ a2, a2 < a → I1 101 a2 = sp_mask ((sp_bt lk vt qv c s) a2) 5) (hk : ∀ I2 : Nat → Nat → Int, (∀ k j, k ≠ 101 → I2 k j = I k j) → (∀ a2, a2 < a + 1 → I2 101 a2 = sp_mask ((sp_bt lk vt qv c s) a2) 5) → x_Ex sc 2 xM_B_weighThings 2 [(1, xi ((a + 1 : Nat) : Int)), (2, xi 5), (0, xr 92)] [] (xSH, I2, L) (BQ I L (sp_bt lk vt qv c s))) : x_Ex sc 2 xM_B_weighThings 16 [(2, xi (↑i)), (1, xi (↑a)), (0, xr 92)] [] (xSH, I1, L) (BQ I L (sp_bt lk vt qv c s)) := by
  refine ex_st 2 (pc' := 18) (ls' := [(2, xi (↑i)), (1, xi (↑a)), (0, xr 92)]) (st' := [xi 5, xi (↑i)]) rfl ?_
  refine ex_ic rfl (by constructor <;> omega) (by decide) (fun (h0 : (5 : Int) ≤ (↑i : Int)) => ?_) (fun (h0 : ¬ (5 : Int) ≤ (↑i : Int)) => ?_)
  · refine ex_st 2 (pc' := 2) (ls' := [(1, xi ((↑a) + 1)), (2, xi (↑i)), (0, xr 92)]) (st' := []) rfl ?_
    have hi5 : i = 5 := by omega
    subst hi5
    exact hk I1 hF (fun a2 h2 => by rcases (show a2 < a ∨ a2 = a by omega) with h3 | h3; exact hd a2 h3; subst h3; exact hm)
  · refine ex_st 5 (pc' := 28) (ls' := [(2, xi (↑i)), (1, xi (↑a)), (0, xr 92)]) (st' := [xi (I1 92 1), xi (↑i), xi (↑a), xr 92]) rfl ?_
    rw [show I1 92 1 = (s : Int) from by rw [hF _ _ (by decide)]; exact hp]
    refine ex_call (ct_B_leads (hB.fr (fun k j h1 _ => hF k j h1)) (by omega) (by omega) hs) (by decide) rfl ⟨rfl, rfl, rfl⟩ ⟨Nat.le_of_ble_eq_true rfl, rfl, rfl⟩ (Nat.le_of_ble_eq_true rfl) rfl ?_
    refine ex_beq rfl (fun h1 => ?_) (fun h1 => ?_)
    · refine ex_st 2 (pc' := 16) (ls' := [(2, xi ((↑i) + 1)), (1, xi (↑a)), (0, xr 92)]) (st' := []) rfl ?_
      refine lp_wtI hB hs hp (I1 := I1) ?_ ha (i + 1) (by omega) ?_ ?_ hk
      · exact hF
      · rw [hm]; show _ = sp_mask _ i + _; rw [if_neg (show ¬ sp_bt lk vt qv c s a i = true by assumption), Int.add_zero]
      · exact hd
    · refine ex_st 4 (pc' := 40) (ls' := [(2, xi (↑i)), (1, xi (↑a)), (0, xr 92)]) (st' := [xi (↑a), xr 101, xi (↑a), xr 101]) rfl ?_
      refine ex_iald (j := a) rfl (by decide) (rfl : xSH[101]? = some _) (by omega) (by omega) (by decide) ?_
      refine ex_st 4 (pc' := 45) (ls' := [(2, xi (↑i)), (1, xi (↑a)), (0, xr 92)]) (st' := [xi (z_or (I1 101 a) (z_shl 1 (↑i))), xi (↑a), xr 101]) rfl ?_
      refine ex_iast (j := a) rfl (by decide) (rfl : xSH[101]? = some _) (by omega) (by omega) (by decide) ?_
      refine ex_st 2 (pc' := 16) (ls' := [(2, xi ((↑i) + 1)), (1, xi (↑a)), (0, xr 92)]) (st' := []) rfl ?_
      refine lp_wtI hB hs hp (I1 := x_up I1 101 a (z_or (I1 101 a) (z_shl 1 (↑i)))) ?_ ha (i + 1) (by omega) ?_ ?_ hk
      · intro k j hk1; rw [x_up_ne hk1]; exact hF k j hk1
      · show x_up _ _ _ _ _ _ = _
        simp only [x_up, if_true]
        rw [hm, sp_mask_or _ (by omega)]; show _ = sp_mask _ i + _; rw [if_pos (show sp_bt lk vt qv c s a i = true by assumption)]
      · intro a2 h2; simp only [x_up, if_true]; rw [if_neg (by omega)]; exact hd a2 h2
termination_by 5 - i
decreasing_by all_goals omega

theorem lp_wtO {sc : List Int} {I : Nat → Nat → Int} {L : Nat → Nat → Int64} {c : Nat} {lk : Nat → Nat → Int} {vt : Nat → Int} {qv : Int} (hB : BW I c lk vt qv) {s : Nat} (hs : s < 64) (hp : I 92 1 = (s : Int)) {I1 : Nat → Nat → Int} (hF : ∀ k j, k ≠ 101 → I1 k j = I k j) (i : Nat) (hi : i ≤ 5) (hd : ∀ a2, a2 < i → I1 101 a2 = sp_mask ((sp_bt lk vt qv c s) a2) 5) (w : Int) : x_Ex sc 2 xM_B_weighThings 2 [(1, xi (↑i)), (2, xi w), (0, xr 92)] [] (xSH, I1, L) (BQ I L (sp_bt lk vt qv c s)) := by
  refine ex_st 2 (pc' := 4) (ls' := [(1, xi (↑i)), (2, xi w), (0, xr 92)]) (st' := [xi 5, xi (↑i)]) rfl ?_
  refine ex_ic rfl (by constructor <;> omega) (by decide) (fun (h0 : (5 : Int) ≤ (↑i : Int)) => ?_) (fun (h0 : ¬ (5 : Int) ≤ (↑i : Int)) => ?_)
  · refine ex_retv rfl rfl ?_
    exact ⟨rfl, I1, rfl, hF, fun a2 h2 => hd a2 (by omega)⟩
  · refine ex_st 4 (pc' := 13) (ls' := [(1, xi (↑i)), (2, xi w), (0, xr 92)]) (st' := [xi 0, xi (↑i), xr 101]) rfl ?_
    refine ex_iast (j := i) rfl (by decide) (rfl : xSH[101]? = some _) (by omega) (by omega) (by decide) ?_
    refine ex_st 2 (pc' := 16) (ls' := [(2, xi 0), (1, xi (↑i)), (0, xr 92)]) (st' := []) rfl ?_
    refine lp_wtI hB hs hp (I1 := x_up I1 101 i 0) ?_ (a := i) (by omega) 0 (by omega) ?_ ?_ ?_
    · intro k j hk1; rw [x_up_ne hk1]; exact hF k j hk1
    · simp [x_up, sp_mask]
    · intro a2 h2; simp only [x_up, if_true]; rw [if_neg (by omega)]; exact hd a2 h2
    · intro I2 h1 h2; exact lp_wtO hB hs hp h1 (i + 1) (by omega) h2 _
termination_by 5 - i
decreasing_by all_goals omega
theorem ct_B_weighThings {sc : List Int} {I : Nat → Nat → Int} {L : Nat → Nat → Int64} {c : Nat} {lk : Nat → Nat → Int} {vt : Nat → Int} {qv : Int} (hB : BW I c lk vt qv) {s : Nat} (hs : s < 64) (hp : I 92 1 = (s : Int)) : x_CQ sc 3 xN_B_weighThings [xr 92] (xSH, I, L) (fun r m' => BQ I L (sp_bt lk vt qv c s) r m') := by
  refine x_CQ.of (M := xM_B_weighThings) rfl (Nat.le_of_ble_eq_true rfl) ?_
  refine ex_st 4 (pc' := 4) (ls' := [(1, xi 0), (0, xr 92)]) (st' := [xi 5, xi 0]) rfl ?_
  refine ex_st 1 (pc' := 7) (ls' := [(1, xi 0), (0, xr 92)]) (st' := []) rfl ?_
  refine ex_st 4 (pc' := 13) (ls' := [(1, xi 0), (0, xr 92)]) (st' := [xi 0, xi 0, xr 101]) rfl ?_
  refine ex_iast (j := 0) rfl (by decide) (rfl : xSH[101]? = some _) (by decide) (by decide) (by decide) ?_
  refine ex_st 2 (pc' := 16) (ls' := [(2, xi 0), (1, xi 0), (0, xr 92)]) (st' := []) rfl ?_
  refine lp_wtI hB hs hp (I1 := x_up I 101 0 0) ?_ (a := 0) (by omega) 0 (by omega) ?_ ?_ ?_
  · intro k j hk1; rw [x_up_ne hk1]
  · simp [x_up, sp_mask]
  · intro a2 h2; omega
  · intro I2 h1 h2; exact lp_wtO hB hs hp h1 1 (by omega) h2 5
/-- the bits that say what beats what -/
def BM (I : Nat → Nat → Int) (B : Nat → Nat → Bool) : Prop := ∀ a, a < 5 → I 101 a = sp_mask (B a) 5
theorem BM.bit {I : Nat → Nat → Int} {B : Nat → Nat → Bool} (h : BM I B) {a b : Nat} (ha : a < 5) (hb : b < 5) : z_and (z_shr (I 101 a) (b : Int)) 1 = if B a b = true then 1 else 0 := by rw [h a ha]; exact sp_mask_get _ b hb

theorem ct_B_beats {sc : List Int} {I : Nat → Nat → Int} {L : Nat → Nat → Int64} {B : Nat → Nat → Bool} (hM : BM I B) {a b : Nat} (ha : a < 5) (hb : b < 5) : x_CE sc 1 xN_B_beats [xr 92, xi (↑a), xi (↑b)] (xSH, I, L) (some (xi (x_b (B a b = true)))) (xSH, I, L) := by
  refine x_CE.of (M := xM_B_beats) rfl (Nat.le_of_ble_eq_true rfl) ?_
  refine ex_st 3 (pc' := 5) (ls' := [(0, xr 92), (1, xi (↑a)), (2, xi (↑b))]) (st' := [xi (↑a), xr 101]) rfl ?_
  refine ex_iald (j := a) rfl (by decide) (rfl : xSH[101]? = some _) (by omega) (by omega) (by decide) ?_
  refine ex_st 5 (pc' := 11) (ls' := [(0, xr 92), (1, xi (↑a)), (2, xi (↑b))]) (st' := [xi 1, xi (z_and (z_shr (I 101 a) (↑b)) 1)]) rfl ?_
  refine ex_ic rfl (by first | (constructor <;> omega) | (rw [hM.bit (by omega) (by omega)]; split <;> decide)) (by decide) (fun (h0 : ¬ (z_and (z_shr (I 101 a) (↑b)) 1) = 1) => ?_) (fun (h0 : ¬ ¬ (z_and (z_shr (I 101 a) (↑b)) 1) = 1) => ?_)
  · refine ex_st 1 (pc' := 19) (ls' := [(0, xr 92), (1, xi (↑a)), (2, xi (↑b))]) (st' := [xi 0]) rfl ?_
    refine ex_retz rfl (Or.inl rfl) rfl ?_
    exact ⟨by have h9 := hM.bit ha hb; by_cases hq : B a b = true <;> simp [x_b, hq] at h9 ⊢ <;> omega, rfl⟩
  · refine ex_st 2 (pc' := 19) (ls' := [(0, xr 92), (1, xi (↑a)), (2, xi (↑b))]) (st' := [xi 1]) rfl ?_
    refine ex_retz rfl (Or.inr rfl) rfl ?_
    exact ⟨by have h9 := hM.bit ha hb; by_cases hq : B a b = true <;> simp [x_b, hq] at h9 ⊢ <;> omega, rfl⟩
theorem ct_B_isRing {sc : List Int} {I : Nat → Nat → Int} {L : Nat → Nat → Int64} {B : Nat → Nat → Bool} (hM : BM I B) {a b d : Nat} (ha : a < 5) (hb : b < 5) (hd : d < 5) : x_CE sc 2 xN_B_isRing [xr 92, xi (↑a), xi (↑b), xi (↑d)] (xSH, I, L) (some (xi (x_b (B a b = true ∧ B b d = true ∧ B d a = true)))) (xSH, I, L) := by
  refine x_CE.of (M := xM_B_isRing) rfl (Nat.le_of_ble_eq_true rfl) ?_
  refine ex_st 3 (pc' := 3) (ls' := [(0, xr 92), (1, xi (↑a)), (2, xi (↑b)), (3, xi (↑d))]) (st' := [xi (↑b), xi (↑a), xr 92]) rfl ?_
  refine ex_call (ct_B_beats hM (a := a) (b := b) (by omega) (by omega)) (by decide) rfl ⟨rfl, rfl, rfl⟩ ⟨Nat.le_of_ble_eq_true rfl, rfl, rfl⟩ (Nat.le_of_ble_eq_true rfl) rfl ?_
  refine ex_beq rfl (fun h0 => ?_) (fun h0 => ?_)
  · refine ex_st 1 (pc' := 32) (ls' := [(0, xr 92), (1, xi (↑a)), (2, xi (↑b)), (3, xi (↑d))]) (st' := [xi 0]) rfl ?_
    refine ex_retz rfl (Or.inl rfl) rfl ?_
    exact ⟨by simp_all [x_b], rfl⟩
  · refine ex_st 3 (pc' := 12) (ls' := [(0, xr 92), (1, xi (↑a)), (2, xi (↑b)), (3, xi (↑d))]) (st' := [xi (↑d), xi (↑b), xr 92]) rfl ?_
    refine ex_call (ct_B_beats hM (a := b) (b := d) (by omega) (by omega)) (by decide) rfl ⟨rfl, rfl, rfl⟩ ⟨Nat.le_of_ble_eq_true rfl, rfl, rfl⟩ (Nat.le_of_ble_eq_true rfl) rfl ?_
    refine ex_beq rfl (fun h1 => ?_) (fun h1 => ?_)
    · refine ex_st 1 (pc' := 32) (ls' := [(0, xr 92), (1, xi (↑a)), (2, xi (↑b)), (3, xi (↑d))]) (st' := [xi 0]) rfl ?_
      refine ex_retz rfl (Or.inl rfl) rfl ?_
      exact ⟨by simp_all [x_b], rfl⟩
    · refine ex_st 3 (pc' := 21) (ls' := [(0, xr 92), (1, xi (↑a)), (2, xi (↑b)), (3, xi (↑d))]) (st' := [xi (↑a), xi (↑d), xr 92]) rfl ?_
      refine ex_call (ct_B_beats hM (a := d) (b := a) (by omega) (by omega)) (by decide) rfl ⟨rfl, rfl, rfl⟩ ⟨Nat.le_of_ble_eq_true rfl, rfl, rfl⟩ (Nat.le_of_ble_eq_true rfl) rfl ?_
      refine ex_beq rfl (fun h2 => ?_) (fun h2 => ?_)
      · refine ex_st 1 (pc' := 32) (ls' := [(0, xr 92), (1, xi (↑a)), (2, xi (↑b)), (3, xi (↑d))]) (st' := [xi 0]) rfl ?_
        refine ex_retz rfl (Or.inl rfl) rfl ?_
        exact ⟨by simp_all [x_b], rfl⟩
      · refine ex_st 2 (pc' := 32) (ls' := [(0, xr 92), (1, xi (↑a)), (2, xi (↑b)), (3, xi (↑d))]) (st' := [xi 1]) rfl ?_
        refine ex_retz rfl (Or.inr rfl) rfl ?_
        exact ⟨by simp_all [x_b], rfl⟩
/-- what holds by the row g when n + 1 of it are through -/
def sp_dn (B : Nat → Nat → Bool) (g : Nat → Nat) : Nat → Nat
  | 0 => g 0
  | n + 1 => if B (g (n + 1)) (sp_dn B g n) = true then g (n + 1) else sp_dn B g n
theorem sp_dn_lt {B : Nat → Nat → Bool} {g : Nat → Nat} {N : Nat} (h : ∀ i, i < N → g i < 5) : ∀ n, n < N → sp_dn B g n < 5
  | 0, hn => h 0 hn
  | n + 1, hn => by
    unfold sp_dn
    split
    · exact h _ hn
    · exact sp_dn_lt h n (by omega)

theorem lp_doneBy {sc : List Int} {I : Nat → Nat → Int} {L : Nat → Nat → Int64} {B : Nat → Nat → Bool} (hM : BM I B) {k : Nat} (hk : k < 1000) (hsh : xSH[k]? = some (20, 5, [])) {g : Nat → Nat} {n : Nat} (hn : n ≤ 5) (hg : ∀ i, i < n → I k i = (g i : Int) ∧ g i < 5) (i : Nat) (hi : i ≤ n) (hi1 : 1 ≤ i) (hh : Nat) (hh5 : hh < 5) (hhe : hh = sp_dn B g (i - 1)) : x_Ex sc 1 xM_B_doneBy 15 [(4, xi (↑i)), (3, xi (↑hh)), (0, xr 92), (1, xr k), (2, xi (↑n))] [] (xSH, I, L) (fun r m' => r = some (xi (sp_dn B g (n - 1) : Nat)) ∧ m' = (xSH, I, L)) := by
  refine ex_st 2 (pc' := 18) (ls' := [(4, xi (↑i)), (3, xi (↑hh)), (0, xr 92), (1, xr k), (2, xi (↑n))]) (st' := [xi (↑n), xi (↑i)]) rfl ?_
  refine ex_ic rfl (by constructor <;> omega) (by constructor <;> omega) (fun (h0 : (↑n : Int) ≤ (↑i : Int)) => ?_) (fun (h0 : ¬ (↑n : Int) ≤ (↑i : Int)) => ?_)
  · refine ex_st 1 (pc' := 45) (ls' := [(4, xi (↑i)), (3, xi (↑hh)), (0, xr 92), (1, xr k), (2, xi (↑n))]) (st' := [xi (↑hh)]) rfl ?_
    refine ex_reti rfl rfl ?_
    exact ⟨by rw [hhe, show i - 1 = n - 1 by omega], rfl⟩
  · refine ex_st 3 (pc' := 25) (ls' := [(4, xi (↑i)), (3, xi (↑hh)), (0, xr 92), (1, xr k), (2, xi (↑n))]) (st' := [xi (↑i), xr k, xr 92]) rfl ?_
    refine ex_iald (j := i) rfl hk hsh (by omega) (by omega) (by decide) ?_
    refine ex_st 1 (pc' := 27) (ls' := [(4, xi (↑i)), (3, xi (↑hh)), (0, xr 92), (1, xr k), (2, xi (↑n))]) (st' := [xi (↑hh), xi (I k i), xr 92]) rfl ?_
    rw [(hg i (by omega)).1]
    refine ex_call (ct_B_beats hM (a := g i) (b := hh) (hg i (by omega)).2 hh5) (by decide) rfl ⟨rfl, rfl, rfl⟩ ⟨Nat.le_of_ble_eq_true rfl, rfl, rfl⟩ (Nat.le_of_ble_eq_true rfl) rfl ?_
    refine ex_beq rfl (fun h1 => ?_) (fun h1 => ?_)
    · refine ex_st 2 (pc' := 15) (ls' := [(4, xi ((↑i) + 1)), (3, xi (↑hh)), (0, xr 92), (1, xr k), (2, xi (↑n))]) (st' := []) rfl ?_
      exact lp_doneBy hM hk hsh hn hg (i + 1) (by omega) (by omega) hh hh5 (by rw [show i + 1 - 1 = (i - 1) + 1 by omega]; unfold sp_dn; rw [show i - 1 + 1 = i by omega, ← hhe, if_neg (by assumption)])
    · refine ex_st 2 (pc' := 36) (ls' := [(4, xi (↑i)), (3, xi (↑hh)), (0, xr 92), (1, xr k), (2, xi (↑n))]) (st' := [xi (↑i), xr k]) rfl ?_
      refine ex_iald (j := i) rfl hk hsh (by omega) (by omega) (by decide) ?_
      refine ex_st 3 (pc' := 15) (ls' := [(4, xi ((↑i) + 1)), (3, xi (I k i)), (0, xr 92), (1, xr k), (2, xi (↑n))]) (st' := []) rfl ?_
      rw [(hg i (by omega)).1]
      exact lp_doneBy hM hk hsh hn hg (i + 1) (by omega) (by omega) (g i) (hg i (by omega)).2 (by rw [show i + 1 - 1 = (i - 1) + 1 by omega]; unfold sp_dn; rw [show i - 1 + 1 = i by omega, ← hhe, if_pos (by assumption)])
termination_by n - i
decreasing_by all_goals omega
theorem ct_B_doneBy {sc : List Int} {I : Nat → Nat → Int} {L : Nat → Nat → Int64} {B : Nat → Nat → Bool} (hM : BM I B) {k : Nat} (hk : k < 1000) (hsh : xSH[k]? = some (20, 5, [])) {g : Nat → Nat} {n : Nat} (hn : n ≤ 5) (hg : ∀ i, i < n → I k i = (g i : Int) ∧ g i < 5) : x_CE sc 2 xN_B_doneBy [xr 92, xr k, xi (↑n)] (xSH, I, L) (some (xi (if n = 0 then -5 else ((sp_dn B g (n - 1) : Nat) : Int)))) (xSH, I, L) := by
  refine x_CE.of (M := xM_B_doneBy) rfl (Nat.le_of_ble_eq_true rfl) ?_
  refine ex_st 2 (pc' := 2) (ls' := [(0, xr 92), (1, xr k), (2, xi (↑n))]) (st' := [xi 1, xi (↑n)]) rfl ?_
  refine ex_ic rfl (by constructor <;> omega) (by decide) (fun (h0 : (1 : Int) ≤ (↑n : Int)) => ?_) (fun (h0 : ¬ (1 : Int) ≤ (↑n : Int)) => ?_)
  · refine ex_st 2 (pc' := 10) (ls' := [(0, xr 92), (1, xr k), (2, xi (↑n))]) (st' := [xi 0, xr k]) rfl ?_
    refine ex_iald (j := 0) rfl hk hsh (by decide) (by decide) (by decide) ?_
    refine ex_st 3 (pc' := 15) (ls' := [(4, xi 1), (3, xi (I k 0)), (0, xr 92), (1, xr k), (2, xi (↑n))]) (st' := []) rfl ?_
    have h0 := (hg 0 (by omega)).1
    rw [h0]
    refine (lp_doneBy hM hk hsh hn hg 1 (by omega) (by omega) (g 0) (hg 0 (by omega)).2 rfl).mono (fun r m2 h => ⟨?_, h.2⟩)
    rw [h.1, if_neg (by omega)]
  · refine ex_st 1 (pc' := 7) (ls' := [(0, xr 92), (1, xr k), (2, xi (↑n))]) (st' := [xi (-5)]) rfl ?_
    refine ex_reti rfl rfl ?_
    exact ⟨by rw [if_pos (by omega)], rfl⟩
