/-! Official: what it likes -/
theorem x_recv_v {n : Nat} {z : Int} {k t s : Nat} {rs : List (Option Nat)} {I : Nat → Nat → Int} {L : Nat → Nat → Int64} {as : List xPV} (hk : k < 1000) (hs : xSH[k]? = some (t, s, rs)) (hz : (t : Int) = z ∧ t < 10) : x_recv (.invokevirtual n) z (xSH, I, L) (xr k :: as) = true := by
  simp only [x_recv, xr, hk, if_true, hs, hz, and_self, decide_true]
theorem x_recv_s {n : Nat} {z : Int} {k t s : Nat} {rs : List (Option Nat)} {m : xMem} {as : List xPV} (hk : k < 1000) (_hs : xSH[k]? = some (t, s, rs)) : x_recv (.invokespecial n) z m (xr k :: as) = true := by
  simp only [x_recv, xr, hk, decide_true]
/-- v if the thing's number is even -/
def sp_ev (v : Int) (a : Nat) : Int := if a % 2 = 0 then v else 0
/-- what the official of the kind k likes, by the sum -/
def sp_like (k : Nat) (v : Int) (row : Nat → Int) (sum : Int) (a : Nat) (egg : Int) (se : Nat) : Int :=
  if k = 1 then sum + sp_ev v a else if k = 2 then sum.tdiv 2 else if k = 3 then -sum else if k = 4 then (if egg ≤ v then sum + sp_ev v a else 0)
  else if k = 5 then sum.tdiv 2 + (if a = 0 then egg else 0) else if k = 6 then row (se % 4) - sum else sum
/-- the official in the cell O -/
def OW (I : Nat → Nat → Int) (O : Nat) (k : Nat) (v : Int) (row : Nat → Int) : Prop := I O 0 = (k : Int) ∧ k ≤ 6 ∧ I O 1 = v ∧ x_R v ∧ ∀ j, j < 4 → I (O + 2) j = row j

theorem ct_O_vIfEven {sc : List Int} {I : Nat → Nat → Int} {L : Nat → Nat → Int64} {O : Nat} (hO : xSH[O]? = some (2, 6, [none, none, none, none, some (O + 1), some (O + 2)])) (hO1 : xSH[O + 1]? = some (20, 5, [])) (hO2 : xSH[O + 2]? = some (20, 4, [])) (hlt : O + 2 < 1000) {v : Int} (hv : I O 1 = v) {a : Nat} (ha : a < 5) : x_CE sc 1 xN_O_vIfEven [xr O, xi (↑a)] (xSH, I, L) (some (xi (sp_ev v a))) (xSH, I, L) := by
  refine x_CE.of (M := xM_O_vIfEven) rfl (Nat.le_of_ble_eq_true rfl) ?_
  refine ex_st 2 (pc' := 2) (ls' := [(0, xr O), (1, xi (↑a))]) (st' := [xi 2, xi (↑a)]) rfl ?_
  refine ex_iremN (a := a) (b := 2) rfl (by omega) (by decide) (by decide) ?_
  refine ex_if rfl (by constructor <;> omega) (fun (h0 : ¬ (↑(a % 2) : Int) = 0) => ?_) (fun (h0 : ¬ ¬ (↑(a % 2) : Int) = 0) => ?_)
  · refine ex_st 1 (pc' := 14) (ls' := [(0, xr O), (1, xi (↑a))]) (st' := [xi 0]) rfl ?_
    refine ex_reti rfl rfl ?_
    exact ⟨by unfold sp_ev; first | (rw [if_pos (by omega), hv]) | (rw [if_neg (by omega)]), rfl⟩
  · refine ex_st 1 (pc' := 7) (ls' := [(0, xr O), (1, xi (↑a))]) (st' := [xr O]) rfl ?_
    refine ex_gfi rfl (by omega) hO (by decide) (by decide) rfl ?_
    refine ex_st 1 (pc' := 14) (ls' := [(0, xr O), (1, xi (↑a))]) (st' := [xi (I O 1)]) rfl ?_
    refine ex_reti rfl rfl ?_
    exact ⟨by unfold sp_ev; first | (rw [if_pos (by omega), hv]) | (rw [if_neg (by omega)]), rfl⟩
theorem ct_O_likesBySum {sc : List Int} {I : Nat → Nat → Int} {L : Nat → Nat → Int64} {O : Nat} (hO : xSH[O]? = some (2, 6, [none, none, none, none, some (O + 1), some (O + 2)])) (hO1 : xSH[O + 1]? = some (20, 5, [])) (hO2 : xSH[O + 2]? = some (20, 4, [])) (hlt : O + 2 < 1000) {k : Nat} {v : Int} {row : Nat → Int} (hW : OW I O k v row) {sum egg : Int} (hs : x_R sum) (he : x_R egg) {a se : Nat} (ha : a < 5) (hse : se < 100000) : x_CE sc 2 xN_O_likesBySum [xr O, xi sum, xi (↑a), xi egg, xi (↑se)] (xSH, I, L) (some (xi (sp_like k v row sum a egg se))) (xSH, I, L) := by
  obtain ⟨hk, hk6, hv, hvR, hrow⟩ := id hW
  refine x_CE.of (M := xM_O_likesBySum) rfl (Nat.le_of_ble_eq_true rfl) ?_
  refine ex_st 1 (pc' := 1) (ls' := [(0, xr O), (1, xi sum), (2, xi (↑a)), (3, xi egg), (4, xi (↑se))]) (st' := [xr O]) rfl ?_
  refine ex_gfi rfl (by omega) hO (by decide) (by decide) rfl ?_
  rcases (show I O 0 = 0 ∨ I O 0 = 1 ∨ I O 0 = 2 ∨ I O 0 = 3 ∨ I O 0 = 4 ∨ I O 0 = 5 ∨ I O 0 = 6 from (by omega)) with hw4 | hw4 | hw4 | hw4 | hw4 | hw4 | hw4
  · rw [hw4]
    obtain rfl : k = 0 := by omega
    refine ex_st 1 (pc' := 105) (ls' := [(0, xr O), (1, xi sum), (2, xi (↑a)), (3, xi egg), (4, xi (↑se))]) (st' := []) rfl ?_
    refine ex_st 1 (pc' := 106) (ls' := [(0, xr O), (1, xi sum), (2, xi (↑a)), (3, xi egg), (4, xi (↑se))]) (st' := [xi sum]) rfl ?_
    refine ex_reti rfl rfl ?_
    refine ⟨?_, rfl⟩
    unfold sp_like
    repeat (first | rw [if_pos (by omega)] | rw [if_neg (by omega)])
    try rw [hrow _ (by omega)]
  · rw [hw4]
    obtain rfl : k = 1 := by omega
    refine ex_st 1 (pc' := 44) (ls' := [(0, xr O), (1, xi sum), (2, xi (↑a)), (3, xi egg), (4, xi (↑se))]) (st' := []) rfl ?_
    refine ex_st 3 (pc' := 47) (ls' := [(0, xr O), (1, xi sum), (2, xi (↑a)), (3, xi egg), (4, xi (↑se))]) (st' := [xi (↑a), xr O, xi sum]) rfl ?_
    refine ex_call (ct_O_vIfEven hO hO1 hO2 hlt hv ha) (by decide) rfl ⟨rfl, rfl, rfl⟩ ⟨Nat.le_of_ble_eq_true rfl, rfl, rfl⟩ (Nat.le_of_ble_eq_true rfl) (x_recv_v (by omega) hO (by decide)) ?_
    refine ex_st 1 (pc' := 51) (ls' := [(0, xr O), (1, xi sum), (2, xi (↑a)), (3, xi egg), (4, xi (↑se))]) (st' := [xi (sum + (sp_ev v a))]) rfl ?_
    refine ex_reti rfl rfl ?_
    refine ⟨?_, rfl⟩
    unfold sp_like
    repeat (first | rw [if_pos (by omega)] | rw [if_neg (by omega)])
    try rw [hrow _ (by omega)]
  · rw [hw4]
    obtain rfl : k = 2 := by omega
    refine ex_st 1 (pc' := 52) (ls' := [(0, xr O), (1, xi sum), (2, xi (↑a)), (3, xi egg), (4, xi (↑se))]) (st' := []) rfl ?_
    refine ex_st 2 (pc' := 54) (ls' := [(0, xr O), (1, xi sum), (2, xi (↑a)), (3, xi egg), (4, xi (↑se))]) (st' := [xi 2, xi sum]) rfl ?_
    refine ex_idiv rfl (by first | omega | (constructor <;> omega) | assumption | (rw [hv]; assumption)) (by first | omega | (constructor <;> omega) | assumption | (rw [hv]; assumption)) (by decide) ?_
    refine ex_reti rfl rfl ?_
    refine ⟨?_, rfl⟩
    unfold sp_like
    repeat (first | rw [if_pos (by omega)] | rw [if_neg (by omega)])
    try rw [hrow _ (by omega)]
  · rw [hw4]
    obtain rfl : k = 3 := by omega
    refine ex_st 1 (pc' := 56) (ls' := [(0, xr O), (1, xi sum), (2, xi (↑a)), (3, xi egg), (4, xi (↑se))]) (st' := []) rfl ?_
    refine ex_st 2 (pc' := 58) (ls' := [(0, xr O), (1, xi sum), (2, xi (↑a)), (3, xi egg), (4, xi (↑se))]) (st' := [xi (-sum)]) rfl ?_
    refine ex_reti rfl rfl ?_
    refine ⟨?_, rfl⟩
    unfold sp_like
    repeat (first | rw [if_pos (by omega)] | rw [if_neg (by omega)])
    try rw [hrow _ (by omega)]
  · rw [hw4]
    obtain rfl : k = 4 := by omega
    refine ex_st 1 (pc' := 59) (ls' := [(0, xr O), (1, xi sum), (2, xi (↑a)), (3, xi egg), (4, xi (↑se))]) (st' := []) rfl ?_
    refine ex_st 2 (pc' := 61) (ls' := [(0, xr O), (1, xi sum), (2, xi (↑a)), (3, xi egg), (4, xi (↑se))]) (st' := [xr O, xi egg]) rfl ?_
    refine ex_gfi rfl (by omega) hO (by decide) (by decide) rfl ?_
    refine ex_ic rfl (by first | omega | (constructor <;> omega) | assumption | (rw [hv]; assumption)) (by first | omega | (constructor <;> omega) | assumption | (rw [hv]; assumption)) (fun (h0 : egg ≤ (I O 1)) => ?_) (fun (h0 : ¬ egg ≤ (I O 1)) => ?_)
    · refine ex_st 3 (pc' := 74) (ls' := [(0, xr O), (1, xi sum), (2, xi (↑a)), (3, xi egg), (4, xi (↑se))]) (st' := [xi (↑a), xr O, xi sum]) rfl ?_
      refine ex_call (ct_O_vIfEven hO hO1 hO2 hlt hv ha) (by decide) rfl ⟨rfl, rfl, rfl⟩ ⟨Nat.le_of_ble_eq_true rfl, rfl, rfl⟩ (Nat.le_of_ble_eq_true rfl) (x_recv_v (by omega) hO (by decide)) ?_
      refine ex_st 1 (pc' := 78) (ls' := [(0, xr O), (1, xi sum), (2, xi (↑a)), (3, xi egg), (4, xi (↑se))]) (st' := [xi (sum + (sp_ev v a))]) rfl ?_
      refine ex_reti rfl rfl ?_
      refine ⟨?_, rfl⟩
      unfold sp_like
      repeat (first | rw [if_pos (by omega)] | rw [if_neg (by omega)])
      try rw [hrow _ (by omega)]
    · refine ex_st 2 (pc' := 78) (ls' := [(0, xr O), (1, xi sum), (2, xi (↑a)), (3, xi egg), (4, xi (↑se))]) (st' := [xi 0]) rfl ?_
      refine ex_reti rfl rfl ?_
      refine ⟨?_, rfl⟩
      unfold sp_like
      repeat (first | rw [if_pos (by omega)] | rw [if_neg (by omega)])
      try rw [hrow _ (by omega)]
  · rw [hw4]
    obtain rfl : k = 5 := by omega
    refine ex_st 1 (pc' := 79) (ls' := [(0, xr O), (1, xi sum), (2, xi (↑a)), (3, xi egg), (4, xi (↑se))]) (st' := []) rfl ?_
    refine ex_st 2 (pc' := 81) (ls' := [(0, xr O), (1, xi sum), (2, xi (↑a)), (3, xi egg), (4, xi (↑se))]) (st' := [xi 2, xi sum]) rfl ?_
    refine ex_idiv rfl (by first | omega | (constructor <;> omega) | assumption | (rw [hv]; assumption)) (by first | omega | (constructor <;> omega) | assumption | (rw [hv]; assumption)) (by decide) ?_
    refine ex_st 1 (pc' := 83) (ls' := [(0, xr O), (1, xi sum), (2, xi (↑a)), (3, xi egg), (4, xi (↑se))]) (st' := [xi (↑a), xi (sum.tdiv 2)]) rfl ?_
    refine ex_if rfl (by first | omega | (constructor <;> omega) | assumption | (rw [hv]; assumption)) (fun (h1 : ¬ (↑a : Int) = 0) => ?_) (fun (h1 : ¬ ¬ (↑a : Int) = 0) => ?_)
    · refine ex_st 2 (pc' := 92) (ls' := [(0, xr O), (1, xi sum), (2, xi (↑a)), (3, xi egg), (4, xi (↑se))]) (st' := [xi ((sum.tdiv 2) + 0)]) rfl ?_
      refine ex_reti rfl rfl ?_
      refine ⟨?_, rfl⟩
      unfold sp_like
      repeat (first | rw [if_pos (by omega)] | rw [if_neg (by omega)])
      try rw [hrow _ (by omega)]
    · refine ex_st 3 (pc' := 92) (ls' := [(0, xr O), (1, xi sum), (2, xi (↑a)), (3, xi egg), (4, xi (↑se))]) (st' := [xi ((sum.tdiv 2) + egg)]) rfl ?_
      refine ex_reti rfl rfl ?_
      refine ⟨?_, rfl⟩
      unfold sp_like
      repeat (first | rw [if_pos (by omega)] | rw [if_neg (by omega)])
      try rw [hrow _ (by omega)]
  · rw [hw4]
    obtain rfl : k = 6 := by omega
    refine ex_st 1 (pc' := 93) (ls' := [(0, xr O), (1, xi sum), (2, xi (↑a)), (3, xi egg), (4, xi (↑se))]) (st' := []) rfl ?_
    refine ex_st 1 (pc' := 94) (ls' := [(0, xr O), (1, xi sum), (2, xi (↑a)), (3, xi egg), (4, xi (↑se))]) (st' := [xr O]) rfl ?_
    refine ex_gfr rfl (by omega) hO (by decide) (by decide) rfl ?_
    refine ex_st 2 (pc' := 100) (ls' := [(0, xr O), (1, xi sum), (2, xi (↑a)), (3, xi egg), (4, xi (↑se))]) (st' := [xi 4, xi (↑se), xr (O + 2)]) rfl ?_
    refine ex_iremN (a := se) (b := 4) rfl (by omega) (by decide) (by decide) ?_
    refine ex_iald (j := ((se % 4))) rfl (by omega) hO2 (by omega) (by omega) (by decide) ?_
    refine ex_st 2 (pc' := 104) (ls' := [(0, xr O), (1, xi sum), (2, xi (↑a)), (3, xi egg), (4, xi (↑se))]) (st' := [xi ((I (O + 2) ((se % 4))) - sum)]) rfl ?_
    refine ex_reti rfl rfl ?_
    refine ⟨?_, rfl⟩
    unfold sp_like
    repeat (first | rw [if_pos (by omega)] | rw [if_neg (by omega)])
    try rw [hrow _ (by omega)]
