/-! Treaty: swing -/
theorem ex_tswd {sc : List Int} {D : Nat} {M : xMt} {pc pc' len a b : Nat} {z : Int} {d lo hi x : Int} {offs} {ls : xLc} {r : List xPV} {m : xMem} {Q : Option xPV → xMem → Prop} (he : x_lk M.2.2 pc = some (.tableswitch d lo hi offs, len, a, b, z)) (hx : x_R x) (hd : x < lo ∨ hi < x) (hp : ((pc : Int) + d).toNat = pc') (kk : x_Ex sc D M pc' ls r m Q) : x_Ex sc D M pc ls (xi x :: r) m Q := by
  have hw : wr x = x := wr_id (by omega) (by omega)
  refine ex_sm he rfl (pc' := pc') (ls' := ls) (st' := r) (m' := m) ?_ kk
  simp only [x_sm, xi, hw]
  rw [if_pos hd, hp]
theorem z_and_R (a b : Int) : x_R (z_and a b) := ⟨Int32.le_toInt _, Int32.toInt_lt _⟩
/-- a test's code on the facts -/
def sp_test (fa : Nat → Int) (t : Nat) : Bool :=
  if t / 100 % 3 = 0 then decide (fa (t / 300) < ((t % 100 : Nat) : Int)) else if t / 100 % 3 = 1 then decide (fa (t / 300) = ((t % 100 : Nat) : Int)) else decide (((t % 100 : Nat) : Int) < fa (t / 300))
/-- one step on the stack of bits -/
def sp_step (fa : Nat → Int) (st cd : Int) : Int :=
  if cd = -1 then z_xor st 1 else if cd = -2 then z_and (z_shr st 1) (z_or st (-2)) else if cd = -3 then z_or (z_shr st 1) (z_and st 1) else z_or (z_shl st 1) (if sp_test fa cd.toNat = true then 1 else 0)
/-- n steps from i on -/
def sp_exec (fa : Nat → Int) (cd : Nat → Int) : Nat → Nat → Int → Int
  | 0, _, st => st
  | n + 1, i, st => sp_exec fa cd n (i + 1) (sp_step fa st (cd i))
def sp_true (fa : Nat → Int) (cd : Nat → Int) (i n : Nat) : Bool := decide (z_and (sp_exec fa cd (n - i) i 0) 1 = 1)
/-- the clauses' weights that are true, from i on -/
def sp_sw (fa : Nat → Int) (cd : Nat → Int) (we : Nat → Int) (en : Nat → Nat) : Nat → Nat → Nat → Int
  | 0, _, _ => 0
  | n + 1, i, fr => (if sp_true fa cd fr (en i) = true then we i else 0) + sp_sw fa cd we en n (i + 1) (en i)
/-- the facts in cell 102 -/
def FW (I : Nat → Nat → Int) (fa : Nat → Int) : Prop := ∀ j, j < 6 → I 102 j = fa j ∧ x_R (fa j)
/-- the treaty in the cells T .. T + 3: its codes below n -/
def CW (I : Nat → Nat → Int) (T n : Nat) (cd : Nat → Int) : Prop := n ≤ 100 ∧ ∀ j, j < n → I (T + 3) j = cd j ∧ -3 ≤ cd j ∧ cd j < 1800
/-- its clauses -/
def TW (I : Nat → Nat → Int) (T c : Nat) (n : Nat) (we : Nat → Int) (en : Nat → Nat) : Prop := I T 1 = (c : Int) ∧ c ≤ 10 ∧ (∀ j, j < c → I (T + 1) j = we j ∧ -99 ≤ we j ∧ we j ≤ 99) ∧ ∀ j, j < c → I (T + 2) j = (en j : Int) ∧ en j ≤ n
/-- the shapes of a treaty -/
def TS (T : Nat) : Prop := xSH[T]? = some (6, 6, [none, none, some (T + 1), some (T + 2), some (T + 3), none]) ∧ xSH[T + 1]? = some (20, 10, []) ∧ xSH[T + 2]? = some (20, 10, []) ∧ xSH[T + 3]? = some (20, 100, []) ∧ T + 3 < 1000
theorem TS.mk : ∀ j, j < 6 → TS (107 + 4 * j) := fun j hj => by
  rcases (show j = 0 ∨ j = 1 ∨ j = 2 ∨ j = 3 ∨ j = 4 ∨ j = 5 by omega) with rfl | rfl | rfl | rfl | rfl | rfl <;> exact ⟨rfl, rfl, rfl, rfl, by decide⟩
theorem TS.mk87 : TS 87 := ⟨rfl, rfl, rfl, rfl, by decide⟩

theorem ct_Tr_passes {sc : List Int} {I : Nat → Nat → Int} {L : Nat → Nat → Int64} {fa : Nat → Int} (hF : FW I fa) {t : Nat} (ht : t < 1800) : x_CE sc 1 xN_Tr_passes [xi (↑t), xr 102] (xSH, I, L) (some (xi (x_b (sp_test fa t = true)))) (xSH, I, L) := by
  have hft := hF (t / 300) (by omega)
  refine x_CE.of (M := xM_Tr_passes) rfl (Nat.le_of_ble_eq_true rfl) ?_
  refine ex_st 3 (pc' := 5) (ls' := [(0, xi (↑t)), (1, xr 102)]) (st' := [xi 300, xi (↑t), xr 102]) rfl ?_
  refine ex_idivN (a := t) (b := 300) rfl (by omega) (by decide) (by decide) ?_
  refine ex_iald (j := ((t / 300))) rfl (by decide) (rfl : xSH[102]? = some _) (by omega) (by omega) (by decide) ?_
  refine ex_st 3 (pc' := 11) (ls' := [(2, xi (I 102 ((t / 300)))), (0, xi (↑t)), (1, xr 102)]) (st' := [xi 100, xi (↑t)]) rfl ?_
  refine ex_iremN (a := t) (b := 100) rfl (by omega) (by decide) (by decide) ?_
  refine ex_st 3 (pc' := 16) (ls' := [(3, xi (↑(t % 100))), (2, xi (I 102 ((t / 300)))), (0, xi (↑t)), (1, xr 102)]) (st' := [xi 100, xi (↑t)]) rfl ?_
  refine ex_idivN (a := t) (b := 100) rfl (by omega) (by decide) (by decide) ?_
  refine ex_st 1 (pc' := 18) (ls' := [(3, xi (↑(t % 100))), (2, xi (I 102 ((t / 300)))), (0, xi (↑t)), (1, xr 102)]) (st' := [xi 3, xi (↑(t / 100))]) rfl ?_
  refine ex_iremN (a := ((t / 100))) (b := 3) rfl (by omega) (by decide) (by decide) ?_
  rcases (show t / 100 % 3 = 0 ∨ t / 100 % 3 = 1 ∨ t / 100 % 3 = 2 by omega) with hw | hw | hw
  · rw [hw]
    refine ex_st 1 (pc' := 44) (ls' := [(3, xi (↑(t % 100))), (2, xi (I 102 ((t / 300)))), (0, xi (↑t)), (1, xr 102)]) (st' := []) rfl ?_
    refine ex_st 2 (pc' := 46) (ls' := [(3, xi (↑(t % 100))), (2, xi (I 102 ((t / 300)))), (0, xi (↑t)), (1, xr 102)]) (st' := [xi (↑(t % 100)), xi (I 102 ((t / 300)))]) rfl ?_
    refine ex_ic rfl (by constructor <;> omega) (by constructor <;> omega) (fun (h0 : (↑(t % 100) : Int) ≤ (I 102 ((t / 300)))) => ?_) (fun (h0 : ¬ (↑(t % 100) : Int) ≤ (I 102 ((t / 300)))) => ?_)
    · refine ex_st 1 (pc' := 54) (ls' := [(3, xi (↑(t % 100))), (2, xi (I 102 ((t / 300)))), (0, xi (↑t)), (1, xr 102)]) (st' := [xi 0]) rfl ?_
      refine ex_retz rfl (Or.inl rfl) rfl ?_
      have e9 : sp_test fa t = false := by
        unfold sp_test
        repeat (first | rw [if_pos (by omega)] | rw [if_neg (by omega)])
        simp only [decide_eq_true_eq, decide_eq_false_iff_not]
        omega
      exact ⟨by unfold x_b; rw [e9]; rfl, rfl⟩
    · refine ex_st 2 (pc' := 54) (ls' := [(3, xi (↑(t % 100))), (2, xi (I 102 ((t / 300)))), (0, xi (↑t)), (1, xr 102)]) (st' := [xi 1]) rfl ?_
      refine ex_retz rfl (Or.inr rfl) rfl ?_
      have e9 : sp_test fa t = true := by
        unfold sp_test
        repeat (first | rw [if_pos (by omega)] | rw [if_neg (by omega)])
        simp only [decide_eq_true_eq, decide_eq_false_iff_not]
        omega
      exact ⟨by unfold x_b; rw [e9]; rfl, rfl⟩
  · rw [hw]
    refine ex_st 1 (pc' := 55) (ls' := [(3, xi (↑(t % 100))), (2, xi (I 102 ((t / 300)))), (0, xi (↑t)), (1, xr 102)]) (st' := []) rfl ?_
    refine ex_st 2 (pc' := 57) (ls' := [(3, xi (↑(t % 100))), (2, xi (I 102 ((t / 300)))), (0, xi (↑t)), (1, xr 102)]) (st' := [xi (↑(t % 100)), xi (I 102 ((t / 300)))]) rfl ?_
    refine ex_ic rfl (by constructor <;> omega) (by constructor <;> omega) (fun (h1 : ¬ (I 102 ((t / 300))) = (↑(t % 100) : Int)) => ?_) (fun (h1 : ¬ ¬ (I 102 ((t / 300))) = (↑(t % 100) : Int)) => ?_)
    · refine ex_st 1 (pc' := 65) (ls' := [(3, xi (↑(t % 100))), (2, xi (I 102 ((t / 300)))), (0, xi (↑t)), (1, xr 102)]) (st' := [xi 0]) rfl ?_
      refine ex_retz rfl (Or.inl rfl) rfl ?_
      have e9 : sp_test fa t = false := by
        unfold sp_test
        repeat (first | rw [if_pos (by omega)] | rw [if_neg (by omega)])
        simp only [decide_eq_true_eq, decide_eq_false_iff_not]
        omega
      exact ⟨by unfold x_b; rw [e9]; rfl, rfl⟩
    · refine ex_st 2 (pc' := 65) (ls' := [(3, xi (↑(t % 100))), (2, xi (I 102 ((t / 300)))), (0, xi (↑t)), (1, xr 102)]) (st' := [xi 1]) rfl ?_
      refine ex_retz rfl (Or.inr rfl) rfl ?_
      have e9 : sp_test fa t = true := by
        unfold sp_test
        repeat (first | rw [if_pos (by omega)] | rw [if_neg (by omega)])
        simp only [decide_eq_true_eq, decide_eq_false_iff_not]
        omega
      exact ⟨by unfold x_b; rw [e9]; rfl, rfl⟩
  · rw [hw]
    refine ex_st 1 (pc' := 66) (ls' := [(3, xi (↑(t % 100))), (2, xi (I 102 ((t / 300)))), (0, xi (↑t)), (1, xr 102)]) (st' := []) rfl ?_
    refine ex_st 2 (pc' := 68) (ls' := [(3, xi (↑(t % 100))), (2, xi (I 102 ((t / 300)))), (0, xi (↑t)), (1, xr 102)]) (st' := [xi (↑(t % 100)), xi (I 102 ((t / 300)))]) rfl ?_
    refine ex_ic rfl (by constructor <;> omega) (by constructor <;> omega) (fun (h2 : (I 102 ((t / 300))) ≤ (↑(t % 100) : Int)) => ?_) (fun (h2 : ¬ (I 102 ((t / 300))) ≤ (↑(t % 100) : Int)) => ?_)
    · refine ex_st 1 (pc' := 76) (ls' := [(3, xi (↑(t % 100))), (2, xi (I 102 ((t / 300)))), (0, xi (↑t)), (1, xr 102)]) (st' := [xi 0]) rfl ?_
      refine ex_retz rfl (Or.inl rfl) rfl ?_
      have e9 : sp_test fa t = false := by
        unfold sp_test
        repeat (first | rw [if_pos (by omega)] | rw [if_neg (by omega)])
        simp only [decide_eq_true_eq, decide_eq_false_iff_not]
        omega
      exact ⟨by unfold x_b; rw [e9]; rfl, rfl⟩
    · refine ex_st 2 (pc' := 76) (ls' := [(3, xi (↑(t % 100))), (2, xi (I 102 ((t / 300)))), (0, xi (↑t)), (1, xr 102)]) (st' := [xi 1]) rfl ?_
      refine ex_retz rfl (Or.inr rfl) rfl ?_
      have e9 : sp_test fa t = true := by
        unfold sp_test
        repeat (first | rw [if_pos (by omega)] | rw [if_neg (by omega)])
        simp only [decide_eq_true_eq, decide_eq_false_iff_not]
        omega
      exact ⟨by unfold x_b; rw [e9]; rfl, rfl⟩
theorem lp_isTrue {sc : List Int} {I : Nat → Nat → Int} {L : Nat → Nat → Int64} {T : Nat} (hTS : TS T) {fa : Nat → Int} (hF : FW I fa) {n : Nat} {cd : Nat → Int} (hC : CW I T n cd) {w : Int} (i : Nat) (hi : i ≤ n) (st : Int) : x_Ex sc 1 xM_Tr_isTrue 6 [(5, xi (↑i)), (4, xi st), (0, xr T), (1, xi w), (2, xi (↑n)), (3, xr 102)] [] (xSH, I, L) (fun r m' => r = some (xi (x_b (z_and (sp_exec fa cd (n - i) i st) 1 = 1))) ∧ m' = (xSH, I, L)) := by
  obtain ⟨hT, hT1, hT2, hT3, hlt⟩ := id hTS
  have hn := hC.1
  refine ex_st 2 (pc' := 9) (ls' := [(5, xi (↑i)), (4, xi st), (0, xr T), (1, xi w), (2, xi (↑n)), (3, xr 102)]) (st' := [xi (↑n), xi (↑i)]) rfl ?_
  refine ex_ic rfl (by first | exact z_and_R _ _ | omega | (constructor <;> omega) | decide) (by first | exact z_and_R _ _ | omega | (constructor <;> omega) | decide) (fun (h0 : (↑n : Int) ≤ (↑i : Int)) => ?_) (fun (h0 : ¬ (↑n : Int) ≤ (↑i : Int)) => ?_)
  · refine ex_st 4 (pc' := 119) (ls' := [(5, xi (↑i)), (4, xi st), (0, xr T), (1, xi w), (2, xi (↑n)), (3, xr 102)]) (st' := [xi 1, xi (z_and st 1)]) rfl ?_
    refine ex_ic rfl (by first | exact z_and_R _ _ | omega | (constructor <;> omega) | decide) (by decide) (fun (h1 : ¬ (z_and st 1) = 1) => ?_) (fun (h1 : ¬ ¬ (z_and st 1) = 1) => ?_)
    · refine ex_st 1 (pc' := 127) (ls' := [(5, xi (↑i)), (4, xi st), (0, xr T), (1, xi w), (2, xi (↑n)), (3, xr 102)]) (st' := [xi 0]) rfl ?_
      refine ex_retz rfl (Or.inl rfl) rfl ?_
      have hq : n - i = 0 := by omega
      exact ⟨by rw [hq]; show _ = some (xi (x_b (z_and st 1 = 1))); unfold x_b; rw [if_neg (by omega)], rfl⟩
    · refine ex_st 2 (pc' := 127) (ls' := [(5, xi (↑i)), (4, xi st), (0, xr T), (1, xi w), (2, xi (↑n)), (3, xr 102)]) (st' := [xi 1]) rfl ?_
      refine ex_retz rfl (Or.inr rfl) rfl ?_
      have hq : n - i = 0 := by omega
      exact ⟨by rw [hq]; show _ = some (xi (x_b (z_and st 1 = 1))); unfold x_b; rw [if_pos (by omega)], rfl⟩
  · refine ex_st 1 (pc' := 13) (ls' := [(5, xi (↑i)), (4, xi st), (0, xr T), (1, xi w), (2, xi (↑n)), (3, xr 102)]) (st' := [xr T]) rfl ?_
    refine ex_gfr rfl (by omega) hT (by decide) (by decide) rfl ?_
    refine ex_st 1 (pc' := 18) (ls' := [(5, xi (↑i)), (4, xi st), (0, xr T), (1, xi w), (2, xi (↑n)), (3, xr 102)]) (st' := [xi (↑i), xr (T + 3)]) rfl ?_
    refine ex_iald (j := i) rfl (by omega) hT3 (by omega) (by omega) (by decide) ?_
    have hci := hC.2 i (by omega)
    rw [hci.1]
    rcases (show cd i = -1 ∨ cd i = -2 ∨ cd i = -3 ∨ 0 ≤ cd i by omega) with hw | hw | hw | hw
    · rw [hw]
      refine ex_st 1 (pc' := 44) (ls' := [(5, xi (↑i)), (4, xi st), (0, xr T), (1, xi w), (2, xi (↑n)), (3, xr 102)]) (st' := []) rfl ?_
      refine ex_st 7 (pc' := 6) (ls' := [(5, xi ((↑i) + 1)), (4, xi (z_xor st 1)), (0, xr T), (1, xi w), (2, xi (↑n)), (3, xr 102)]) (st' := []) rfl ?_
      have h9 := lp_isTrue (sc := sc) (L := L) (w := w) hTS hF hC (i + 1) (by omega) (z_xor st 1)
      rw [show n - i = (n - (i + 1)) + 1 by omega]
      rw [show sp_exec fa cd ((n - (i + 1)) + 1) i st = sp_exec fa cd (n - (i + 1)) (i + 1) (z_xor st 1) from by show sp_exec _ _ _ _ (sp_step fa st (cd i)) = _; rw [show sp_step fa st (cd i) = z_xor st 1 from by unfold sp_step; repeat (first | rw [if_pos (by omega)] | rw [if_neg (by omega)])]]
      exact ex_pm _ (fun i => by rcases i with _ | _ | _ | _ | _ | _ | _ | _ | _ | i <;> first | (right; rfl) | (left; rfl)) h9
    · rw [hw]
      refine ex_st 1 (pc' := 53) (ls' := [(5, xi (↑i)), (4, xi st), (0, xr T), (1, xi w), (2, xi (↑n)), (3, xr 102)]) (st' := []) rfl ?_
      refine ex_st 11 (pc' := 6) (ls' := [(5, xi ((↑i) + 1)), (4, xi (z_and (z_shr st 1) (z_or st (-2)))), (0, xr T), (1, xi w), (2, xi (↑n)), (3, xr 102)]) (st' := []) rfl ?_
      have h9 := lp_isTrue (sc := sc) (L := L) (w := w) hTS hF hC (i + 1) (by omega) (z_and (z_shr st 1) (z_or st (-2)))
      rw [show n - i = (n - (i + 1)) + 1 by omega]
      rw [show sp_exec fa cd ((n - (i + 1)) + 1) i st = sp_exec fa cd (n - (i + 1)) (i + 1) (z_and (z_shr st 1) (z_or st (-2))) from by show sp_exec _ _ _ _ (sp_step fa st (cd i)) = _; rw [show sp_step fa st (cd i) = z_and (z_shr st 1) (z_or st (-2)) from by unfold sp_step; repeat (first | rw [if_pos (by omega)] | rw [if_neg (by omega)])]]
      exact ex_pm _ (fun i => by rcases i with _ | _ | _ | _ | _ | _ | _ | _ | _ | i <;> first | (right; rfl) | (left; rfl)) h9
    · rw [hw]
      refine ex_st 1 (pc' := 68) (ls' := [(5, xi (↑i)), (4, xi st), (0, xr T), (1, xi w), (2, xi (↑n)), (3, xr 102)]) (st' := []) rfl ?_
      refine ex_st 11 (pc' := 6) (ls' := [(5, xi ((↑i) + 1)), (4, xi (z_or (z_shr st 1) (z_and st 1))), (0, xr T), (1, xi w), (2, xi (↑n)), (3, xr 102)]) (st' := []) rfl ?_
      have h9 := lp_isTrue (sc := sc) (L := L) (w := w) hTS hF hC (i + 1) (by omega) (z_or (z_shr st 1) (z_and st 1))
      rw [show n - i = (n - (i + 1)) + 1 by omega]
      rw [show sp_exec fa cd ((n - (i + 1)) + 1) i st = sp_exec fa cd (n - (i + 1)) (i + 1) (z_or (z_shr st 1) (z_and st 1)) from by show sp_exec _ _ _ _ (sp_step fa st (cd i)) = _; rw [show sp_step fa st (cd i) = z_or (z_shr st 1) (z_and st 1) from by unfold sp_step; repeat (first | rw [if_pos (by omega)] | rw [if_neg (by omega)])]]
      exact ex_pm _ (fun i => by rcases i with _ | _ | _ | _ | _ | _ | _ | _ | _ | i <;> first | (right; rfl) | (left; rfl)) h9
    · refine ex_tswd (pc' := 82) rfl (by constructor <;> omega) (by omega) rfl ?_
      refine ex_st 4 (pc' := 87) (ls' := [(5, xi (↑i)), (4, xi st), (0, xr T), (1, xi w), (2, xi (↑n)), (3, xr 102)]) (st' := [xr T, xi (z_shl st 1)]) rfl ?_
      refine ex_gfr rfl (by omega) hT (by decide) (by decide) rfl ?_
      refine ex_st 1 (pc' := 92) (ls' := [(5, xi (↑i)), (4, xi st), (0, xr T), (1, xi w), (2, xi (↑n)), (3, xr 102)]) (st' := [xi (↑i), xr (T + 3), xi (z_shl st 1)]) rfl ?_
      refine ex_iald (j := i) rfl (by omega) hT3 (by omega) (by omega) (by decide) ?_
      refine ex_st 1 (pc' := 94) (ls' := [(5, xi (↑i)), (4, xi st), (0, xr T), (1, xi w), (2, xi (↑n)), (3, xr 102)]) (st' := [xr 102, xi (I (T + 3) i), xi (z_shl st 1)]) rfl ?_
      obtain ⟨t, ht⟩ := Int.eq_ofNat_of_zero_le hw
      rw [hci.1, ht]
      refine ex_call (ct_Tr_passes hF (t := t) (by omega)) (by decide) rfl ⟨rfl, rfl, rfl⟩ ⟨Nat.le_of_ble_eq_true rfl, rfl, rfl⟩ (Nat.le_of_ble_eq_true rfl) rfl ?_
      refine ex_beq rfl (fun h2 => ?_) (fun h2 => ?_)
      · refine ex_st 5 (pc' := 6) (ls' := [(5, xi ((↑i) + 1)), (4, xi (z_or (z_shl st 1) 0)), (0, xr T), (1, xi w), (2, xi (↑n)), (3, xr 102)]) (st' := []) rfl ?_
        have h9 := lp_isTrue (sc := sc) (L := L) (w := w) hTS hF hC (i + 1) (by omega) (z_or (z_shl st 1) 0)
        rw [show n - i = (n - (i + 1)) + 1 by omega]
        rw [show sp_exec fa cd ((n - (i + 1)) + 1) i st = sp_exec fa cd (n - (i + 1)) (i + 1) (z_or (z_shl st 1) 0) from by show sp_exec _ _ _ _ (sp_step fa st (cd i)) = _; rw [show sp_step fa st (cd i) = z_or (z_shl st 1) 0 from by unfold sp_step; rw [if_neg (by omega), if_neg (by omega), if_neg (by omega), ht, show ((t : Int)).toNat = t from rfl]; first | rw [if_pos (by assumption)] | rw [if_neg (by assumption)]]]
        exact ex_pm _ (fun i => by rcases i with _ | _ | _ | _ | _ | _ | _ | _ | _ | i <;> first | (right; rfl) | (left; rfl)) h9
      · refine ex_st 6 (pc' := 6) (ls' := [(5, xi ((↑i) + 1)), (4, xi (z_or (z_shl st 1) 1)), (0, xr T), (1, xi w), (2, xi (↑n)), (3, xr 102)]) (st' := []) rfl ?_
        have h9 := lp_isTrue (sc := sc) (L := L) (w := w) hTS hF hC (i + 1) (by omega) (z_or (z_shl st 1) 1)
        rw [show n - i = (n - (i + 1)) + 1 by omega]
        rw [show sp_exec fa cd ((n - (i + 1)) + 1) i st = sp_exec fa cd (n - (i + 1)) (i + 1) (z_or (z_shl st 1) 1) from by show sp_exec _ _ _ _ (sp_step fa st (cd i)) = _; rw [show sp_step fa st (cd i) = z_or (z_shl st 1) 1 from by unfold sp_step; rw [if_neg (by omega), if_neg (by omega), if_neg (by omega), ht, show ((t : Int)).toNat = t from rfl]; first | rw [if_pos (by assumption)] | rw [if_neg (by assumption)]]]
        exact ex_pm _ (fun i => by rcases i with _ | _ | _ | _ | _ | _ | _ | _ | _ | i <;> first | (right; rfl) | (left; rfl)) h9
termination_by n - i
decreasing_by all_goals omega
theorem ct_Tr_isTrue {sc : List Int} {I : Nat → Nat → Int} {L : Nat → Nat → Int64} {T : Nat} (hTS : TS T) {fa : Nat → Int} (hF : FW I fa) {n : Nat} {cd : Nat → Int} (hC : CW I T n cd) {f : Nat} (hf : f ≤ n) : x_CE sc 2 xN_Tr_isTrue [xr T, xi (↑f), xi (↑n), xr 102] (xSH, I, L) (some (xi (x_b (sp_true fa cd f n = true)))) (xSH, I, L) := by
  have h9 := lp_isTrue (sc := sc) (L := L) (w := f) hTS hF hC f hf 0
  rw [show x_b (z_and (sp_exec fa cd (n - f) f 0) 1 = 1) = x_b (sp_true fa cd f n = true) from by unfold x_b sp_true; simp only [decide_eq_true_eq]] at h9
  refine x_CE.of (M := xM_Tr_isTrue) rfl (Nat.le_of_ble_eq_true rfl) ?_
  refine ex_st 4 (pc' := 6) (ls' := [(5, xi (↑f)), (4, xi 0), (0, xr T), (1, xi (↑f)), (2, xi (↑n)), (3, xr 102)]) (st' := []) rfl ?_
  exact ex_pm _ (fun i => by rcases i with _ | _ | _ | _ | _ | _ | _ | _ | _ | i <;> first | (right; rfl) | (left; rfl)) h9
theorem CW.le {I : Nat → Nat → Int} {T n n' : Nat} {cd : Nat → Int} (h : CW I T n cd) (hn : n' ≤ n) : CW I T n' cd := ⟨Nat.le_trans hn h.1, fun j hj => h.2 j (by omega)⟩

theorem lp_swing {sc : List Int} {I : Nat → Nat → Int} {L : Nat → Nat → Int64} {T : Nat} (hTS : TS T) {fa : Nat → Int} (hF : FW I fa) {n : Nat} {cd : Nat → Int} (hC : CW I T n cd) {c : Nat} {we : Nat → Int} {en : Nat → Nat} (hW : TW I T c n we en) (hm : ∀ a b, a ≤ b → b < c → en a ≤ en b) (i : Nat) (hi : i ≤ c) (acc : Int) (fr : Nat) (hfr : fr ≤ n) (hle : ∀ j, i ≤ j → j < c → fr ≤ en j) : x_Ex sc 2 xM_Tr_swing 7 [(4, xi (↑i)), (2, xi acc), (3, xi (↑fr)), (0, xr T), (1, xr 102)] [] (xSH, I, L) (fun r m' => r = some (xi (acc + sp_sw fa cd we en (c - i) i fr)) ∧ m' = (xSH, I, L)) := by
  obtain ⟨hT, hT1, hT2, hT3, hlt⟩ := id hTS
  have hn := hC.1
  have hc := hW.1
  have hc10 := hW.2.1
  refine ex_st 2 (pc' := 10) (ls' := [(4, xi (↑i)), (2, xi acc), (3, xi (↑fr)), (0, xr T), (1, xr 102)]) (st' := [xr T, xi (↑i)]) rfl ?_
  refine ex_gfi rfl (by omega) hT (by decide) (by decide) rfl ?_
  refine ex_ic rfl (by first | exact z_and_R _ _ | omega | (constructor <;> omega) | decide) (by first | exact z_and_R _ _ | omega | (constructor <;> omega) | decide) (fun (h0 : (I T 1) ≤ (↑i : Int)) => ?_) (fun (h0 : ¬ (I T 1) ≤ (↑i : Int)) => ?_)
  · refine ex_st 1 (pc' := 57) (ls' := [(4, xi (↑i)), (2, xi acc), (3, xi (↑fr)), (0, xr T), (1, xr 102)]) (st' := [xi acc]) rfl ?_
    refine ex_reti rfl rfl ?_
    exact ⟨by rw [show c - i = 0 by omega]; show _ = some (xi (acc + 0)); rw [Int.add_zero], rfl⟩
  · refine ex_st 3 (pc' := 19) (ls' := [(4, xi (↑i)), (2, xi acc), (3, xi (↑fr)), (0, xr T), (1, xr 102)]) (st' := [xr T, xi (↑fr), xr T]) rfl ?_
    refine ex_gfr rfl (by omega) hT (by decide) (by decide) rfl ?_
    refine ex_st 1 (pc' := 24) (ls' := [(4, xi (↑i)), (2, xi acc), (3, xi (↑fr)), (0, xr T), (1, xr 102)]) (st' := [xi (↑i), xr (T + 2), xi (↑fr), xr T]) rfl ?_
    refine ex_iald (j := i) rfl (by omega) hT2 (by omega) (by omega) (by decide) ?_
    refine ex_st 1 (pc' := 26) (ls' := [(4, xi (↑i)), (2, xi acc), (3, xi (↑fr)), (0, xr T), (1, xr 102)]) (st' := [xr 102, xi (I (T + 2) i), xi (↑fr), xr T]) rfl ?_
    have hei := hW.2.2.2 i (by omega)
    rw [hei.1]
    refine ex_call (ct_Tr_isTrue hTS hF (hC.le hei.2) (hle i (by omega) (by omega))) (by decide) rfl ⟨rfl, rfl, rfl⟩ ⟨Nat.le_of_ble_eq_true rfl, rfl, rfl⟩ (Nat.le_of_ble_eq_true rfl) (x_recv_v (by omega) hT (by decide)) ?_
    refine ex_beq rfl (fun h1 => ?_) (fun h1 => ?_)
    · refine ex_st 1 (pc' := 43) (ls' := [(4, xi (↑i)), (2, xi acc), (3, xi (↑fr)), (0, xr T), (1, xr 102)]) (st' := [xr T]) rfl ?_
      refine ex_gfr rfl (by omega) hT (by decide) (by decide) rfl ?_
      refine ex_st 1 (pc' := 48) (ls' := [(4, xi (↑i)), (2, xi acc), (3, xi (↑fr)), (0, xr T), (1, xr 102)]) (st' := [xi (↑i), xr (T + 2)]) rfl ?_
      refine ex_iald (j := i) rfl (by omega) hT2 (by omega) (by omega) (by decide) ?_
      refine ex_st 3 (pc' := 7) (ls' := [(4, xi ((↑i) + 1)), (3, xi (I (T + 2) i)), (2, xi acc), (0, xr T), (1, xr 102)]) (st' := []) rfl ?_
      have h8 := hW.2.2.1 i (by omega)
      rw [show c - i = (c - (i + 1)) + 1 by omega]
      rw [hei.1]
      have h9 := lp_swing (sc := sc) (L := L) hTS hF hC hW hm (i + 1) (by omega) acc (en i) hei.2 (fun j hj1 hj2 => hm i j (by omega) hj2)
      rw [show acc + sp_sw fa cd we en ((c - (i + 1)) + 1) i fr = acc + sp_sw fa cd we en (c - (i + 1)) (i + 1) (en i) from by show acc + (_ + _) = _; rw [if_neg (by assumption), Int.zero_add]]
      exact ex_pm _ (fun i => by rcases i with _ | _ | _ | _ | _ | _ | _ | _ | _ | i <;> first | (right; rfl) | (left; rfl)) h9
    · refine ex_st 2 (pc' := 34) (ls' := [(4, xi (↑i)), (2, xi acc), (3, xi (↑fr)), (0, xr T), (1, xr 102)]) (st' := [xr T, xi acc]) rfl ?_
      refine ex_gfr rfl (by omega) hT (by decide) (by decide) rfl ?_
      refine ex_st 1 (pc' := 39) (ls' := [(4, xi (↑i)), (2, xi acc), (3, xi (↑fr)), (0, xr T), (1, xr 102)]) (st' := [xi (↑i), xr (T + 1), xi acc]) rfl ?_
      refine ex_iald (j := i) rfl (by omega) hT1 (by omega) (by omega) (by decide) ?_
      refine ex_st 3 (pc' := 43) (ls' := [(2, xi (acc + (I (T + 1) i))), (4, xi (↑i)), (3, xi (↑fr)), (0, xr T), (1, xr 102)]) (st' := [xr T]) rfl ?_
      refine ex_gfr rfl (by omega) hT (by decide) (by decide) rfl ?_
      refine ex_st 1 (pc' := 48) (ls' := [(2, xi (acc + (I (T + 1) i))), (4, xi (↑i)), (3, xi (↑fr)), (0, xr T), (1, xr 102)]) (st' := [xi (↑i), xr (T + 2)]) rfl ?_
      refine ex_iald (j := i) rfl (by omega) hT2 (by omega) (by omega) (by decide) ?_
      refine ex_st 3 (pc' := 7) (ls' := [(4, xi ((↑i) + 1)), (3, xi (I (T + 2) i)), (2, xi (acc + (I (T + 1) i))), (0, xr T), (1, xr 102)]) (st' := []) rfl ?_
      have h8 := hW.2.2.1 i (by omega)
      rw [show c - i = (c - (i + 1)) + 1 by omega]
      rw [hei.1, h8.1]
      have h9 := lp_swing (sc := sc) (L := L) hTS hF hC hW hm (i + 1) (by omega) (acc + we i) (en i) hei.2 (fun j hj1 hj2 => hm i j (by omega) hj2)
      rw [show acc + sp_sw fa cd we en ((c - (i + 1)) + 1) i fr = acc + we i + sp_sw fa cd we en (c - (i + 1)) (i + 1) (en i) from by show acc + (_ + _) = _; rw [if_pos (by assumption), Int.add_assoc]]
      exact ex_pm _ (fun i => by rcases i with _ | _ | _ | _ | _ | _ | _ | _ | _ | i <;> first | (right; rfl) | (left; rfl)) h9
termination_by c - i
decreasing_by all_goals omega
theorem ct_Tr_swing {sc : List Int} {I : Nat → Nat → Int} {L : Nat → Nat → Int64} {T : Nat} (hTS : TS T) {fa : Nat → Int} (hF : FW I fa) {n : Nat} {cd : Nat → Int} (hC : CW I T n cd) {c : Nat} {we : Nat → Int} {en : Nat → Nat} (hW : TW I T c n we en) (hm : ∀ a b, a ≤ b → b < c → en a ≤ en b) : x_CE sc 3 xN_Tr_swing [xr T, xr 102] (xSH, I, L) (some (xi (sp_sw fa cd we en c 0 0))) (xSH, I, L) := by
  refine x_CE.of (M := xM_Tr_swing) rfl (Nat.le_of_ble_eq_true rfl) ?_
  refine ex_st 6 (pc' := 7) (ls' := [(4, xi 0), (3, xi 0), (2, xi 0), (0, xr T), (1, xr 102)]) (st' := []) rfl ?_
  have h9 := lp_swing (sc := sc) (L := L) hTS hF hC hW hm 0 (by omega) 0 0 (by omega) (fun j _ _ => by omega)
  rw [Int.zero_add] at h9
  exact ex_pm _ (fun i => by rcases i with _ | _ | _ | _ | _ | _ | _ | _ | _ | i <;> first | (right; rfl) | (left; rfl)) h9
