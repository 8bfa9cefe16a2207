theorem ct_G_isThing {sc : List Int} {t : Int} (ht : x_R t) {m : xMem} : x_CE sc 1 xN_G_isThing [xi t] m (some (xi (x_b (0 ≤ t ∧ t < 5)))) m := by
  refine x_CE.of (M := xM_G_isThing) rfl (Nat.le_of_ble_eq_true rfl) ?_
  refine ex_st 1 (pc' := 1) (ls' := [(0, xi t)]) (st' := [xi t]) rfl ?_
  refine ex_if rfl (by constructor <;> omega) (fun (h0 : t < 0) => ?_) (fun (h0 : ¬ t < 0) => ?_)
  · refine ex_st 1 (pc' := 14) (ls' := [(0, xi t)]) (st' := [xi 0]) rfl ?_
    refine ex_retz rfl (Or.inl rfl) rfl ?_
    exact ⟨by unfold x_b; first | rw [if_pos (by omega)] | rw [if_neg (by omega)], rfl⟩
  · refine ex_st 2 (pc' := 6) (ls' := [(0, xi t)]) (st' := [xi 5, xi t]) rfl ?_
    refine ex_ic rfl (by constructor <;> omega) (by decide) (fun (h1 : (5 : Int) ≤ t) => ?_) (fun (h1 : ¬ (5 : Int) ≤ t) => ?_)
    · refine ex_st 1 (pc' := 14) (ls' := [(0, xi t)]) (st' := [xi 0]) rfl ?_
      refine ex_retz rfl (Or.inl rfl) rfl ?_
      exact ⟨by unfold x_b; first | rw [if_pos (by omega)] | rw [if_neg (by omega)], rfl⟩
    · refine ex_st 2 (pc' := 14) (ls' := [(0, xi t)]) (st' := [xi 1]) rfl ?_
      refine ex_retz rfl (Or.inr rfl) rfl ?_
      exact ⟨by unfold x_b; first | rw [if_pos (by omega)] | rw [if_neg (by omega)], rfl⟩
theorem ct_G_isKind {sc : List Int} {t : Int} (ht : x_R t) {m : xMem} : x_CE sc 1 xN_G_isKind [xi t] m (some (xi (x_b (0 ≤ t ∧ t < 7)))) m := by
  refine x_CE.of (M := xM_G_isKind) rfl (Nat.le_of_ble_eq_true rfl) ?_
  refine ex_st 1 (pc' := 1) (ls' := [(0, xi t)]) (st' := [xi t]) rfl ?_
  refine ex_if rfl (by constructor <;> omega) (fun (h0 : t < 0) => ?_) (fun (h0 : ¬ t < 0) => ?_)
  · refine ex_st 1 (pc' := 15) (ls' := [(0, xi t)]) (st' := [xi 0]) rfl ?_
    refine ex_retz rfl (Or.inl rfl) rfl ?_
    exact ⟨by unfold x_b; first | rw [if_pos (by omega)] | rw [if_neg (by omega)], rfl⟩
  · refine ex_st 2 (pc' := 7) (ls' := [(0, xi t)]) (st' := [xi 7, xi t]) rfl ?_
    refine ex_ic rfl (by constructor <;> omega) (by decide) (fun (h1 : (7 : Int) ≤ t) => ?_) (fun (h1 : ¬ (7 : Int) ≤ t) => ?_)
    · refine ex_st 1 (pc' := 15) (ls' := [(0, xi t)]) (st' := [xi 0]) rfl ?_
      refine ex_retz rfl (Or.inl rfl) rfl ?_
      exact ⟨by unfold x_b; first | rw [if_pos (by omega)] | rw [if_neg (by omega)], rfl⟩
    · refine ex_st 2 (pc' := 15) (ls' := [(0, xi t)]) (st' := [xi 1]) rfl ?_
      refine ex_retz rfl (Or.inr rfl) rfl ?_
      exact ⟨by unfold x_b; first | rw [if_pos (by omega)] | rw [if_neg (by omega)], rfl⟩
theorem ct_G_isTape {sc : List Int} {t : Int} (ht : x_R t) {m : xMem} : x_CE sc 1 xN_G_isTape [xi t] m (some (xi (x_b (0 ≤ t ∧ t < 6)))) m := by
  refine x_CE.of (M := xM_G_isTape) rfl (Nat.le_of_ble_eq_true rfl) ?_
  refine ex_st 1 (pc' := 1) (ls' := [(0, xi t)]) (st' := [xi t]) rfl ?_
  refine ex_if rfl (by constructor <;> omega) (fun (h0 : t < 0) => ?_) (fun (h0 : ¬ t < 0) => ?_)
  · refine ex_st 1 (pc' := 15) (ls' := [(0, xi t)]) (st' := [xi 0]) rfl ?_
    refine ex_retz rfl (Or.inl rfl) rfl ?_
    exact ⟨by unfold x_b; first | rw [if_pos (by omega)] | rw [if_neg (by omega)], rfl⟩
  · refine ex_st 2 (pc' := 7) (ls' := [(0, xi t)]) (st' := [xi 6, xi t]) rfl ?_
    refine ex_ic rfl (by constructor <;> omega) (by decide) (fun (h1 : (6 : Int) ≤ t) => ?_) (fun (h1 : ¬ (6 : Int) ≤ t) => ?_)
    · refine ex_st 1 (pc' := 15) (ls' := [(0, xi t)]) (st' := [xi 0]) rfl ?_
      refine ex_retz rfl (Or.inl rfl) rfl ?_
      exact ⟨by unfold x_b; first | rw [if_pos (by omega)] | rw [if_neg (by omega)], rfl⟩
    · refine ex_st 2 (pc' := 15) (ls' := [(0, xi t)]) (st' := [xi 1]) rfl ?_
      refine ex_retz rfl (Or.inr rfl) rfl ?_
      exact ⟨by unfold x_b; first | rw [if_pos (by omega)] | rw [if_neg (by omega)], rfl⟩
theorem ct_G_isDigit {sc : List Int} {t : Int} (ht : x_R t) {m : xMem} : x_CE sc 1 xN_G_isDigit [xi t] m (some (xi (x_b (0 ≤ t ∧ t < 10)))) m := by
  refine x_CE.of (M := xM_G_isDigit) rfl (Nat.le_of_ble_eq_true rfl) ?_
  refine ex_st 1 (pc' := 1) (ls' := [(0, xi t)]) (st' := [xi t]) rfl ?_
  refine ex_if rfl (by constructor <;> omega) (fun (h0 : t < 0) => ?_) (fun (h0 : ¬ t < 0) => ?_)
  · refine ex_st 1 (pc' := 15) (ls' := [(0, xi t)]) (st' := [xi 0]) rfl ?_
    refine ex_retz rfl (Or.inl rfl) rfl ?_
    exact ⟨by unfold x_b; first | rw [if_pos (by omega)] | rw [if_neg (by omega)], rfl⟩
  · refine ex_st 2 (pc' := 7) (ls' := [(0, xi t)]) (st' := [xi 9, xi t]) rfl ?_
    refine ex_ic rfl (by constructor <;> omega) (by decide) (fun (h1 : (9 : Int) < t) => ?_) (fun (h1 : ¬ (9 : Int) < t) => ?_)
    · refine ex_st 1 (pc' := 15) (ls' := [(0, xi t)]) (st' := [xi 0]) rfl ?_
      refine ex_retz rfl (Or.inl rfl) rfl ?_
      exact ⟨by unfold x_b; first | rw [if_pos (by omega)] | rw [if_neg (by omega)], rfl⟩
    · refine ex_st 2 (pc' := 15) (ls' := [(0, xi t)]) (st' := [xi 1]) rfl ?_
      refine ex_retz rfl (Or.inr rfl) rfl ?_
      exact ⟨by unfold x_b; first | rw [if_pos (by omega)] | rw [if_neg (by omega)], rfl⟩
theorem ct_G_isZeroOrOne {sc : List Int} {t : Int} (ht : x_R t) {m : xMem} : x_CE sc 1 xN_G_isZeroOrOne [xi t] m (some (xi (x_b (t = 0 ∨ t = 1)))) m := by
  refine x_CE.of (M := xM_G_isZeroOrOne) rfl (Nat.le_of_ble_eq_true rfl) ?_
  refine ex_st 1 (pc' := 1) (ls' := [(0, xi t)]) (st' := [xi t]) rfl ?_
  refine ex_if rfl (by constructor <;> omega) (fun (h0 : t = 0) => ?_) (fun (h0 : ¬ t = 0) => ?_)
  · refine ex_st 2 (pc' := 14) (ls' := [(0, xi t)]) (st' := [xi 1]) rfl ?_
    refine ex_retz rfl (Or.inr rfl) rfl ?_
    exact ⟨by unfold x_b; first | rw [if_pos (by omega)] | rw [if_neg (by omega)], rfl⟩
  · refine ex_st 2 (pc' := 6) (ls' := [(0, xi t)]) (st' := [xi 1, xi t]) rfl ?_
    refine ex_ic rfl (by constructor <;> omega) (by decide) (fun (h1 : ¬ t = 1) => ?_) (fun (h1 : ¬ ¬ t = 1) => ?_)
    · refine ex_st 1 (pc' := 14) (ls' := [(0, xi t)]) (st' := [xi 0]) rfl ?_
      refine ex_retz rfl (Or.inl rfl) rfl ?_
      exact ⟨by unfold x_b; first | rw [if_pos (by omega)] | rw [if_neg (by omega)], rfl⟩
    · refine ex_st 2 (pc' := 14) (ls' := [(0, xi t)]) (st' := [xi 1]) rfl ?_
      refine ex_retz rfl (Or.inr rfl) rfl ?_
      exact ⟨by unfold x_b; first | rw [if_pos (by omega)] | rw [if_neg (by omega)], rfl⟩
theorem ct_m_in {sc : List Int} {v lo hi : Int} (hv : x_R v) (h0 : x_R lo) (h1 : x_R hi) {m : xMem} : x_CE sc 1 xN_m_in [xr 143, xi v, xi lo, xi hi] m (some (xi (x_b (lo ≤ v ∧ v ≤ hi)))) m := by
  refine x_CE.of (M := xM_m_in) rfl (Nat.le_of_ble_eq_true rfl) ?_
  refine ex_st 2 (pc' := 2) (ls' := [(0, xr 143), (1, xi v), (2, xi lo), (3, xi hi)]) (st' := [xi lo, xi v]) rfl ?_
  refine ex_ic rfl (by constructor <;> omega) (by constructor <;> omega) (fun (h0 : v < lo) => ?_) (fun (h0 : ¬ v < lo) => ?_)
  · refine ex_st 1 (pc' := 15) (ls' := [(0, xr 143), (1, xi v), (2, xi lo), (3, xi hi)]) (st' := [xi 0]) rfl ?_
    refine ex_retz rfl (Or.inl rfl) rfl ?_
    exact ⟨by unfold x_b; first | rw [if_pos (by omega)] | rw [if_neg (by omega)], rfl⟩
  · refine ex_st 2 (pc' := 7) (ls' := [(0, xr 143), (1, xi v), (2, xi lo), (3, xi hi)]) (st' := [xi hi, xi v]) rfl ?_
    refine ex_ic rfl (by constructor <;> omega) (by constructor <;> omega) (fun (h1 : hi < v) => ?_) (fun (h1 : ¬ hi < v) => ?_)
    · refine ex_st 1 (pc' := 15) (ls' := [(0, xr 143), (1, xi v), (2, xi lo), (3, xi hi)]) (st' := [xi 0]) rfl ?_
      refine ex_retz rfl (Or.inl rfl) rfl ?_
      exact ⟨by unfold x_b; first | rw [if_pos (by omega)] | rw [if_neg (by omega)], rfl⟩
    · refine ex_st 2 (pc' := 15) (ls' := [(0, xr 143), (1, xi v), (2, xi lo), (3, xi hi)]) (st' := [xi 1]) rfl ?_
      refine ex_retz rfl (Or.inr rfl) rfl ?_
      exact ⟨by unfold x_b; first | rw [if_pos (by omega)] | rw [if_neg (by omega)], rfl⟩
