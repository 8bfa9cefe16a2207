/-! pair of calls: act -/
theorem Rl.setC {I I' : Nat → Nat → Int} {L : Nat → Nat → Int64} (h : Rl I L) (hf : ∀ k j, ¬ (k = 104 ∨ k = 105 ∨ k = 190 ∨ (k = 143 ∧ j = 76)) → I' k j = I k j) (hC : RC I') : Rl I' L := by
  obtain ⟨⟨hNs, hNo, hNa, hNb, hNr, hNd, hNg, hNe, hNp, hNk⟩, ⟨gs, go, ga, gb, gr, gd, gg, ge, gp, gk⟩, hT, hX, -, hH, hQ⟩ := h
  exact ⟨⟨hNs.fr ⟨by (repeat rw [hf _ _ (by omega)]); try rfl, by (repeat rw [hf _ _ (by omega)]); try rfl, by (repeat rw [hf _ _ (by omega)]); try rfl, by (repeat rw [hf _ _ (by omega)]); try rfl, by (repeat rw [hf _ _ (by omega)]); try rfl, by (repeat rw [hf _ _ (by omega)]); try rfl, by (repeat rw [hf _ _ (by omega)]); try rfl, by (repeat rw [hf _ _ (by omega)]); try rfl, by (repeat rw [hf _ _ (by omega)]); try rfl⟩, hNo.fr (by intros; (repeat rw [hf _ _ (by omega)]); try rfl) (by intros; (repeat rw [hf _ _ (by omega)]); try rfl), hNa.fr (by intros; (repeat rw [hf _ _ (by omega)]); try rfl) (by (repeat rw [hf _ _ (by omega)]); try rfl), hNb.fr (by intros; (repeat rw [hf _ _ (by omega)]); try rfl) (by intros; (repeat rw [hf _ _ (by omega)]); try rfl), hNr.fr (by intros; (repeat rw [hf _ _ (by omega)]); try rfl) (by intros; (repeat rw [hf _ _ (by omega)]); try rfl), hNd.fr (by intros; (repeat rw [hf _ _ (by omega)]); try rfl) (by intros; (repeat rw [hf _ _ (by omega)]); try rfl) (by (repeat rw [hf _ _ (by omega)]); try rfl), hNg.fr ⟨by (repeat rw [hf _ _ (by omega)]); try rfl, by (repeat rw [hf _ _ (by omega)]); try rfl⟩ (by intros; (repeat rw [hf _ _ (by omega)]); try rfl) (by intros; (repeat rw [hf _ _ (by omega)]); try rfl), hNe.fr ⟨by (repeat rw [hf _ _ (by omega)]); try rfl, by (repeat rw [hf _ _ (by omega)]); try rfl, by (repeat rw [hf _ _ (by omega)]); try rfl⟩ (by intros; (repeat rw [hf _ _ (by omega)]); try rfl) (by intros; (repeat rw [hf _ _ (by omega)]); try rfl), hNp.fr ⟨by (repeat rw [hf _ _ (by omega)]); try rfl, by (repeat rw [hf _ _ (by omega)]); try rfl, by (repeat rw [hf _ _ (by omega)]); try rfl⟩ (by intros; (repeat rw [hf _ _ (by omega)]); try rfl) (by intros; (repeat rw [hf _ _ (by omega)]); try rfl), hNk.fr ⟨by (repeat rw [hf _ _ (by omega)]); try rfl, by (repeat rw [hf _ _ (by omega)]); try rfl, by (repeat rw [hf _ _ (by omega)]); try rfl⟩ (by intros; (repeat rw [hf _ _ (by omega)]); try rfl) (by intros; (repeat rw [hf _ _ (by omega)]); try rfl)⟩, ⟨gs.fr ⟨by (repeat rw [hf _ _ (by omega)]); try rfl, by (repeat rw [hf _ _ (by omega)]); try rfl, by (repeat rw [hf _ _ (by omega)]); try rfl, by (repeat rw [hf _ _ (by omega)]); try rfl, by (repeat rw [hf _ _ (by omega)]); try rfl, by (repeat rw [hf _ _ (by omega)]); try rfl, by (repeat rw [hf _ _ (by omega)]); try rfl, by (repeat rw [hf _ _ (by omega)]); try rfl, by (repeat rw [hf _ _ (by omega)]); try rfl⟩, go.fr (by intros; (repeat rw [hf _ _ (by omega)]); try rfl) (by intros; (repeat rw [hf _ _ (by omega)]); try rfl), ga.fr (by intros; (repeat rw [hf _ _ (by omega)]); try rfl) (by (repeat rw [hf _ _ (by omega)]); try rfl), gb.fr (by intros; (repeat rw [hf _ _ (by omega)]); try rfl) (by intros; (repeat rw [hf _ _ (by omega)]); try rfl), gr.fr (by intros; (repeat rw [hf _ _ (by omega)]); try rfl) (by intros; (repeat rw [hf _ _ (by omega)]); try rfl), gd.fr (by intros; (repeat rw [hf _ _ (by omega)]); try rfl) (by intros; (repeat rw [hf _ _ (by omega)]); try rfl) (by (repeat rw [hf _ _ (by omega)]); try rfl), gg.fr ⟨by (repeat rw [hf _ _ (by omega)]); try rfl, by (repeat rw [hf _ _ (by omega)]); try rfl⟩ (by intros; (repeat rw [hf _ _ (by omega)]); try rfl) (by intros; (repeat rw [hf _ _ (by omega)]); try rfl), ge.fr ⟨by (repeat rw [hf _ _ (by omega)]); try rfl, by (repeat rw [hf _ _ (by omega)]); try rfl, by (repeat rw [hf _ _ (by omega)]); try rfl⟩ (by intros; (repeat rw [hf _ _ (by omega)]); try rfl) (by intros; (repeat rw [hf _ _ (by omega)]); try rfl), gp.fr ⟨by (repeat rw [hf _ _ (by omega)]); try rfl, by (repeat rw [hf _ _ (by omega)]); try rfl, by (repeat rw [hf _ _ (by omega)]); try rfl⟩ (by intros; (repeat rw [hf _ _ (by omega)]); try rfl) (by intros; (repeat rw [hf _ _ (by omega)]); try rfl), gk.fr ⟨by (repeat rw [hf _ _ (by omega)]); try rfl, by (repeat rw [hf _ _ (by omega)]); try rfl, by (repeat rw [hf _ _ (by omega)]); try rfl⟩ (by intros; (repeat rw [hf _ _ (by omega)]); try rfl) (by intros; (repeat rw [hf _ _ (by omega)]); try rfl)⟩, hT.fr ⟨by (repeat rw [hf _ _ (by omega)]); try rfl, by (repeat rw [hf _ _ (by omega)]); try rfl⟩ (by intros; (repeat rw [hf _ _ (by omega)]); try rfl) (by intros; (repeat rw [hf _ _ (by omega)]); try rfl) (by intros; (repeat rw [hf _ _ (by omega)]); try rfl), hX.fr ⟨by (repeat rw [hf _ _ (by omega)]); try rfl, by (repeat rw [hf _ _ (by omega)]); try rfl⟩ (by intros; (repeat rw [hf _ _ (by omega)]); try rfl), hC, hH.fr ⟨by (repeat rw [hf _ _ (by omega)]); try rfl, by (repeat rw [hf _ _ (by omega)]); try rfl, by (repeat rw [hf _ _ (by omega)]); try rfl⟩ (by intros; (repeat rw [hf _ _ (by omega)]); try rfl) (by intros; (repeat rw [hf _ _ (by omega)]); try rfl), hQ.fr (by intros; (repeat rw [hf _ _ (by omega)]); try rfl) (by intros; (repeat rw [hf _ _ (by omega)]); try rfl) (by intros; (repeat rw [hf _ _ (by omega)]); try rfl) (by intros; (repeat rw [hf _ _ (by omega)]); try rfl)⟩
/-- the class's memory with the bodies bs noted -/
def wC (I : Nat → Nat → Int) (bs : List Int) : Nat → Nat → Int := fun k j => if k = 104 ∧ j = 1 then ((bs.length : Nat) : Int) else if k = 105 ∧ j < bs.length then (bs[j]?).getD 0 else I k j
def wM (I : Nat → Nat → Int) (bs : List Int) : Nat → Nat → Int := fun k j => if k = 143 ∧ j = 76 then ((bs.length : Nat) : Int) else if k = 190 ∧ j < bs.length then (bs[j]?).getD 0 else I k j
def aJ (I : Nat → Nat → Int) (a b c : Int) : Nat → Nat → Int := x_up (x_up (x_up I 104 2 a) 104 3 b) 104 4 c
theorem wC_f {I : Nat → Nat → Int} {bs : List Int} {k j : Nat} (h : ¬ (k = 104 ∧ j = 1) ∧ k ≠ 105) : wC I bs k j = I k j := by
  unfold wC; rw [if_neg h.1, if_neg (fun q => h.2 q.1)]
theorem wM_f {I : Nat → Nat → Int} {bs : List Int} {k j : Nat} (h : ¬ (k = 143 ∧ j = 76) ∧ k ≠ 190) : wM I bs k j = I k j := by
  unfold wM; rw [if_neg h.1, if_neg (fun q => h.2 q.1)]
theorem aJ_f {I : Nat → Nat → Int} {a b c : Int} {k j : Nat} (h : ¬ (k = 104 ∧ 2 ≤ j)) : aJ I a b c k j = I k j := by
  unfold aJ; rw [x_up_far (by omega), x_up_far (by omega), x_up_far (by omega)]
theorem aJ_2 {I : Nat → Nat → Int} {a b c : Int} : aJ I a b c 104 2 = a := by unfold aJ; rw [x_up_far (by decide), x_up_far (by decide), x_up_at]
theorem aJ_3 {I : Nat → Nat → Int} {a b c : Int} : aJ I a b c 104 3 = b := by unfold aJ; rw [x_up_far (by decide), x_up_at]
theorem aJ_4 {I : Nat → Nat → Int} {a b c : Int} : aJ I a b c 104 4 = c := by unfold aJ; rw [x_up_at]
theorem wC_beg {I : Nat → Nat → Int} : x_up I 104 1 0 = wC I [] := by
  funext k j
  by_cases h : k = 104 ∧ j = 1
  · obtain ⟨rfl, rfl⟩ := h; rw [x_up_at]; rfl
  · rw [x_up_far h]; unfold wC; rw [if_neg h, if_neg (fun q => absurd q.2 (Nat.not_lt_zero _))]
theorem wM_beg {I : Nat → Nat → Int} : x_up I 143 76 0 = wM I [] := by
  funext k j
  by_cases h : k = 143 ∧ j = 76
  · obtain ⟨rfl, rfl⟩ := h; rw [x_up_at]; rfl
  · rw [x_up_far h]; unfold wM; rw [if_neg h, if_neg (fun q => absurd q.2 (Nat.not_lt_zero _))]
theorem sp_app (bs : List Int) (b : Int) (j : Nat) : ((bs ++ [b])[j]?).getD 0 = if j = bs.length then b else (bs[j]?).getD 0 := by
  by_cases h : j = bs.length
  · subst h; rw [if_pos rfl]; simp
  · rw [if_neg h]
    by_cases h2 : j < bs.length
    · rw [List.getElem?_append_left h2]
    · rw [List.getElem?_eq_none (by simp; omega), List.getElem?_eq_none (by omega)]
theorem wC_app {I : Nat → Nat → Int} {bs : List Int} {b : Int} : x_up (x_up (wC I bs) 105 bs.length b) 104 1 ((bs.length : Int) + 1) = wC I (bs ++ [b]) := by
  funext k j
  have hl : (bs ++ [b]).length = bs.length + 1 := by simp
  by_cases h : k = 104 ∧ j = 1
  · obtain ⟨rfl, rfl⟩ := h; rw [x_up_at]; unfold wC; rw [if_pos ⟨rfl, rfl⟩, hl]; rfl
  · rw [x_up_far h]
    by_cases h2 : k = 105 ∧ j = bs.length
    · obtain ⟨rfl, rfl⟩ := h2; rw [x_up_at]; unfold wC; rw [if_neg (by omega), if_pos ⟨rfl, by omega⟩, sp_app, if_pos rfl]
    · rw [x_up_far h2]; unfold wC; rw [if_neg h, if_neg h, hl, sp_app]
      by_cases h3 : k = 105 ∧ j < bs.length
      · rw [if_pos h3, if_pos ⟨h3.1, by omega⟩, if_neg (by omega)]
      · rw [if_neg h3, if_neg (by omega)]
theorem wM_app {I : Nat → Nat → Int} {bs : List Int} {b : Int} : x_up (x_up (wM I bs) 190 bs.length b) 143 76 ((bs.length : Int) + 1) = wM I (bs ++ [b]) := by
  funext k j
  have hl : (bs ++ [b]).length = bs.length + 1 := by simp
  by_cases h : k = 143 ∧ j = 76
  · obtain ⟨rfl, rfl⟩ := h; rw [x_up_at]; unfold wM; rw [if_pos ⟨rfl, rfl⟩, hl]; rfl
  · rw [x_up_far h]
    by_cases h2 : k = 190 ∧ j = bs.length
    · obtain ⟨rfl, rfl⟩ := h2; rw [x_up_at]; unfold wM; rw [if_neg (by omega), if_pos ⟨rfl, by omega⟩, sp_app, if_pos rfl]
    · rw [x_up_far h2]; unfold wM; rw [if_neg h, if_neg h, hl, sp_app]
      by_cases h3 : k = 190 ∧ j < bs.length
      · rw [if_pos h3, if_pos ⟨h3.1, by omega⟩, if_neg (by omega)]
      · rw [if_neg h3, if_neg (by omega)]
theorem Rl.act {I : Nat → Nat → Int} {L : Nat → Nat → Int64} (h : Rl I L) {a b c : Int} {bs : List Int} (hl : bs.length ≤ 20) : Rl (wM (wC (aJ I a b c) bs) bs) L := by
  refine (h.fr (I' := aJ I a b c) (L' := L) (fun k j hk => aJ_f (by unfold x_scr at hk; omega)) (fun _ _ => rfl)).setC (fun k j hk => by rw [wM_f (by omega), wC_f (by omega)]) ?_
  have h1 : wM (wC (aJ I a b c) bs) bs 143 76 = ((bs.length : Nat) : Int) := by unfold wM; rw [if_pos ⟨rfl, rfl⟩]
  have h2 : wM (wC (aJ I a b c) bs) bs 104 1 = ((bs.length : Nat) : Int) := by rw [wM_f (by omega)]; unfold wC; rw [if_pos ⟨rfl, rfl⟩]
  refine ⟨by rw [h1, h2], by omega, by omega, fun x hx hx2 => ?_⟩
  rw [wM_f (by omega)]
  unfold wC wM
  rw [if_neg (by omega), if_pos ⟨rfl, by omega⟩, if_neg (by omega), if_pos ⟨rfl, by omega⟩]
theorem ex_ixor {sc : List Int} {D : Nat} {M : xMt} {pc : Nat} {ls : xLc} {r : List xPV} {m : xMem} {Q : Option xPV → xMem → Prop} {len a b : Nat} {z x y : Int} (he : x_lk M.2.2 pc = some (.ixor, len, a, b, z)) (kk : x_Ex sc D M (pc + len) ls (xi (z_xor x y) :: r) m Q) : x_Ex sc D M pc ls (xi y :: xi x :: r) m Q :=
  ex_sm he rfl rfl kk
theorem Rl.act0 {I : Nat → Nat → Int} {L : Nat → Nat → Int64} (h : Rl I L) : Rl (x_up (x_up I 104 1 0) 143 76 0) L := by
  refine h.setC (fun k j hk => by rw [x_up_far (by omega), x_up_far (by omega)]) ⟨by rw [x_up_far (by decide), x_up_at, x_up_at], by rw [x_up_at]; decide, by rw [x_up_at]; decide, fun x hx hx2 => ?_⟩
  rw [x_up_at] at hx2
  omega

theorem wC_len {I : Nat → Nat → Int} {bs : List Int} : wC I bs 104 1 = ((bs.length : Nat) : Int) := by unfold wC; rw [if_pos ⟨rfl, rfl⟩]
theorem ct_A_note2 {sc : List Int} {I : Nat → Nat → Int} {L : Nat → Nat → Int64} {bs : List Int} {b : Int} (hl : bs.length < 20) : x_CE sc 1 xN_A_note [xr 104, xi b] (xSH, wC I bs, L) none (xSH, wC I (bs ++ [b]), L) := by
  have hlen := @wC_len I bs
  refine x_CE.of (M := xM_A_note) rfl (Nat.le_of_ble_eq_true rfl) ?_
  refine ex_st 2 (pc' := 4) (ls' := [(0, xr 104), (1, xi b)]) (st' := [xi ((wC I bs) 104 1)]) rfl ?_
  rw [hlen]
  refine ex_st 1 (pc' := 6) (ls' := [(0, xr 104), (1, xi b)]) (st' := [xi 20, xi (↑(bs.length))]) rfl ?_
  refine ex_ic rfl (by constructor <;> omega) (by decide) (fun (h0 : ((20 : Int)) ≤ (↑(bs.length) : Int)) => ?_) (fun (h0 : ¬ ((20 : Int)) ≤ (↑(bs.length) : Int)) => ?_)
  · exfalso; omega
  · refine ex_st 4 (pc' := 17) (ls' := [(0, xr 104), (1, xi b)]) (st' := [xi ((wC I bs) 104 1), xr 105]) rfl ?_
    rw [hlen]
    refine ex_st 1 (pc' := 18) (ls' := [(0, xr 104), (1, xi b)]) (st' := [xi b, xi (↑(bs.length)), xr 105]) rfl ?_
    refine ex_iast (j := ((bs.length))) rfl (by decide) (rfl : xSH[105]? = some _) (by omega) (by omega) (by decide) ?_
    refine ex_st 2 (pc' := 21) (ls' := [(0, xr 104), (1, xi b)]) (st' := [xr 104, xr 104]) rfl ?_
    refine ex_gfi rfl (by decide) (rfl : xSH[104]? = some _) (by decide) (by decide) rfl ?_
    rw [x_up_far (k := 104) (j := 1) (k0 := 105) (j0 := (bs.length)) (by first | decide | omega), hlen]
    refine ex_st 2 (pc' := 26) (ls' := [(0, xr 104), (1, xi b)]) (st' := [xi ((↑(bs.length)) + 1), xr 104]) rfl ?_
    refine ex_pfi rfl (by decide) (rfl : xSH[104]? = some _) (by decide) rfl (by decide) (fun h => by cases h) ?_
    refine ex_retv rfl rfl ?_
    exact ⟨rfl, by rw [wC_app]⟩
theorem wM_len {I : Nat → Nat → Int} {bs : List Int} : wM I bs 143 76 = ((bs.length : Nat) : Int) := by unfold wM; rw [if_pos ⟨rfl, rfl⟩]
theorem ct_m_body {sc : List Int} {I : Nat → Nat → Int} {L : Nat → Nat → Int64} {bs : List Int} {b : Int} (hl : bs.length < 20) : x_CE sc 1 xN_m_body [xr 143, xi b] (xSH, wM I bs, L) none (xSH, wM I (bs ++ [b]), L) := by
  have hlen := @wM_len I bs
  refine x_CE.of (M := xM_m_body) rfl (Nat.le_of_ble_eq_true rfl) ?_
  refine ex_st 2 (pc' := 4) (ls' := [(0, xr 143), (1, xi b)]) (st' := [xi ((wM I bs) 143 76)]) rfl ?_
  rw [hlen]
  refine ex_st 1 (pc' := 6) (ls' := [(0, xr 143), (1, xi b)]) (st' := [xi 20, xi (↑(bs.length))]) rfl ?_
  refine ex_ic rfl (by constructor <;> omega) (by decide) (fun (h0 : ((20 : Int)) ≤ (↑(bs.length) : Int)) => ?_) (fun (h0 : ¬ ((20 : Int)) ≤ (↑(bs.length) : Int)) => ?_)
  · exfalso; omega
  · refine ex_st 4 (pc' := 17) (ls' := [(0, xr 143), (1, xi b)]) (st' := [xi ((wM I bs) 143 76), xr 190]) rfl ?_
    rw [hlen]
    refine ex_st 1 (pc' := 18) (ls' := [(0, xr 143), (1, xi b)]) (st' := [xi b, xi (↑(bs.length)), xr 190]) rfl ?_
    refine ex_iast (j := ((bs.length))) rfl (by decide) (rfl : xSH[190]? = some _) (by omega) (by omega) (by decide) ?_
    refine ex_st 2 (pc' := 21) (ls' := [(0, xr 143), (1, xi b)]) (st' := [xr 143, xr 143]) rfl ?_
    refine ex_gfi rfl (by decide) (rfl : xSH[143]? = some _) (by decide) (by decide) rfl ?_
    rw [x_up_far (k := 143) (j := 76) (k0 := 190) (j0 := (bs.length)) (by first | decide | omega), hlen]
    refine ex_st 2 (pc' := 26) (ls' := [(0, xr 143), (1, xi b)]) (st' := [xi ((↑(bs.length)) + 1), xr 143]) rfl ?_
    refine ex_pfi rfl (by decide) (rfl : xSH[143]? = some _) (by decide) rfl (by decide) (fun h => by cases h) ?_
    refine ex_retv rfl rfl ?_
    exact ⟨rfl, by rw [wM_app]⟩
set_option maxRecDepth 8000 in
set_option maxHeartbeats 2000000 in
theorem ct_A_begin_0_0 {sc : List Int} {I : Nat → Nat → Int} {L : Nat → Nat → Int64} {n : Nat} {x v : Int} (hn : n < 6) (hq : I (11 + 3 * n) 0 = 0) (hv : I (11 + 3 * n) 1 = v) : x_CE sc 20 xN_A_begin [xr 104, xi 0, xi (↑n), xr (11 + 3 * n), xi x] (xSH, I, L) (some (xi (x + (↑n)))) (xSH, wC (aJ I 0 v (↑n)) [10], L) := by
  refine x_CE.of (M := xM_A_begin) rfl (Nat.le_of_ble_eq_true rfl) ?_
  refine ex_st 2 (pc' := 2) (ls' := [(0, xr 104), (1, xi 0), (2, xi (↑n)), (3, xr (11 + 3 * n)), (4, xi x)]) (st' := [xr (11 + 3 * n), xr 104]) rfl ?_
  refine ex_gfi rfl (by omega) (x_so1 n (by omega)).1 (by decide) (by decide) rfl ?_
  rw [hq]
  refine ex_pfi rfl (by decide) (rfl : xSH[104]? = some _) (by decide) rfl (by decide) (fun h => by cases h) ?_
  refine ex_st 2 (pc' := 10) (ls' := [(0, xr 104), (1, xi 0), (2, xi (↑n)), (3, xr (11 + 3 * n)), (4, xi x)]) (st' := [xr (11 + 3 * n), xr 104]) rfl ?_
  refine ex_gfi rfl (by omega) (x_so1 n (by omega)).1 (by decide) (by decide) rfl ?_
  rw [x_up_far (k := 11 + 3 * n) (j := 1) (k0 := 104) (j0 := 2) (by first | decide | omega), hv]
  refine ex_pfi rfl (by decide) (rfl : xSH[104]? = some _) (by decide) rfl (by decide) (fun h => by cases h) ?_
  refine ex_st 2 (pc' := 18) (ls' := [(0, xr 104), (1, xi 0), (2, xi (↑n)), (3, xr (11 + 3 * n)), (4, xi x)]) (st' := [xi (↑n), xr 104]) rfl ?_
  refine ex_pfi rfl (by decide) (rfl : xSH[104]? = some _) (by decide) rfl (by decide) (fun h => by cases h) ?_
  refine ex_st 2 (pc' := 23) (ls' := [(0, xr 104), (1, xi 0), (2, xi (↑n)), (3, xr (11 + 3 * n)), (4, xi x)]) (st' := [xi 0, xr 104]) rfl ?_
  refine ex_pfi rfl (by decide) (rfl : xSH[104]? = some _) (by decide) rfl (by decide) (fun h => by cases h) ?_
  rw [wC_beg]
  refine ex_st 4 (pc' := 32) (ls' := [(0, xr 104), (1, xi 0), (2, xi (↑n)), (3, xr (11 + 3 * n)), (4, xi x)]) (st' := [xi ((wC (aJ I 0 v (↑n)) []) 104 2), xi 0, xr 104]) rfl ?_
  rw [wC_f (by decide), aJ_2]
  refine ex_st 2 (pc' := 35) (ls' := [(0, xr 104), (1, xi 0), (2, xi (↑n)), (3, xr (11 + 3 * n)), (4, xi x)]) (st' := [xi 0, xi x, xi 0, xi 0, xr 104]) rfl ?_
  refine ex_inl (M' := xM_A_run) (as := [xr 104, xi 0, xi 0, xi x, xi 0]) (rest := []) (D' := 18) rfl (Nat.le_of_ble_eq_true rfl) (by decide) rfl ⟨rfl, rfl, rfl⟩ ⟨Nat.le_of_ble_eq_true rfl, rfl, rfl⟩ (Nat.le_of_ble_eq_true rfl) rfl ?_
  refine ex_st 2 (pc' := 4) (ls' := [(0, xr 104), (1, xi 0), (2, xi 0), (3, xi x), (4, xi 0)]) (st' := [xi 20, xi 0]) rfl ?_
  refine ex_st 1 (pc' := 7) (ls' := [(0, xr 104), (1, xi 0), (2, xi 0), (3, xi x), (4, xi 0)]) (st' := []) rfl ?_
  refine ex_st 1 (pc' := 8) (ls' := [(0, xr 104), (1, xi 0), (2, xi 0), (3, xi x), (4, xi 0)]) (st' := [xi 0]) rfl ?_
  refine ex_call (ct_G_isKind (by decide)) (by decide) rfl ⟨rfl, rfl, rfl⟩ ⟨Nat.le_of_ble_eq_true rfl, rfl, rfl⟩ (Nat.le_of_ble_eq_true rfl) rfl ?_
  refine ex_bne rfl (fun h0 => ?_) (fun h0 => ?_)
  · refine ex_st 6 (pc' := 24) (ls' := [(0, xr 104), (1, xi 0), (2, xi 0), (3, xi x), (4, xi 0)]) (st' := [xi 0, xr 1003]) rfl ?_
    refine ex_cald (v := 10) (j := 0) rfl (by decide) rfl (by decide) (by decide) (by decide) (rfl) ?_
    refine ex_st 3 (pc' := 30) (ls' := [(5, xi 10), (0, xr 104), (1, xi 0), (2, xi 0), (3, xi x), (4, xi 0)]) (st' := [xi 10, xr 104]) rfl ?_
    refine ex_call (ct_A_note2 (b := 10) (by decide)) (by decide) rfl ⟨rfl, rfl, rfl⟩ ⟨Nat.le_of_ble_eq_true rfl, rfl, rfl⟩ (Nat.le_of_ble_eq_true rfl) rfl ?_
    refine ex_st 5 (pc' := 41) (ls' := [(6, xi 1), (5, xi 10), (0, xr 104), (1, xi 0), (2, xi 0), (3, xi x), (4, xi 0)]) (st' := [xi 10]) rfl ?_
    refine ex_st 1 (pc' := 140) (ls' := [(6, xi 1), (5, xi 10), (0, xr 104), (1, xi 0), (2, xi 0), (3, xi x), (4, xi 0)]) (st' := []) rfl ?_
    refine ex_st 3 (pc' := 145) (ls' := [(6, xi 1), (5, xi 10), (0, xr 104), (1, xi 0), (2, xi 0), (3, xi x), (4, xi 0)]) (st' := [xi ((wC (aJ I 0 v (↑n)) [10]) 104 4), xi x]) rfl ?_
    rw [wC_f (by decide), aJ_4]
    refine ex_st 1 (pc' := 146) (ls' := [(6, xi 1), (5, xi 10), (0, xr 104), (1, xi 0), (2, xi 0), (3, xi x), (4, xi 0)]) (st' := [xi (x + (↑n))]) rfl ?_
    refine ex_reti rfl rfl ?_
    refine ex_reti rfl rfl ?_
    exact ⟨rfl, rfl⟩
  · exfalso; omega
set_option maxRecDepth 8000 in
set_option maxHeartbeats 2000000 in
theorem ct_A_begin_0_1 {sc : List Int} {I : Nat → Nat → Int} {L : Nat → Nat → Int64} {n : Nat} {x v : Int} (hn : n < 6) (hq : I (11 + 3 * n) 0 = 0) (hv : I (11 + 3 * n) 1 = v) : x_CE sc 20 xN_A_begin [xr 104, xi 1, xi (↑n), xr (11 + 3 * n), xi x] (xSH, I, L) (some (xi ((x + (↑n)) - v))) (xSH, wC (aJ I 0 v (↑n)) [11, 10], L) := by
  refine x_CE.of (M := xM_A_begin) rfl (Nat.le_of_ble_eq_true rfl) ?_
  refine ex_st 2 (pc' := 2) (ls' := [(0, xr 104), (1, xi 1), (2, xi (↑n)), (3, xr (11 + 3 * n)), (4, xi x)]) (st' := [xr (11 + 3 * n), xr 104]) rfl ?_
  refine ex_gfi rfl (by omega) (x_so1 n (by omega)).1 (by decide) (by decide) rfl ?_
  rw [hq]
  refine ex_pfi rfl (by decide) (rfl : xSH[104]? = some _) (by decide) rfl (by decide) (fun h => by cases h) ?_
  refine ex_st 2 (pc' := 10) (ls' := [(0, xr 104), (1, xi 1), (2, xi (↑n)), (3, xr (11 + 3 * n)), (4, xi x)]) (st' := [xr (11 + 3 * n), xr 104]) rfl ?_
  refine ex_gfi rfl (by omega) (x_so1 n (by omega)).1 (by decide) (by decide) rfl ?_
  rw [x_up_far (k := 11 + 3 * n) (j := 1) (k0 := 104) (j0 := 2) (by first | decide | omega), hv]
  refine ex_pfi rfl (by decide) (rfl : xSH[104]? = some _) (by decide) rfl (by decide) (fun h => by cases h) ?_
  refine ex_st 2 (pc' := 18) (ls' := [(0, xr 104), (1, xi 1), (2, xi (↑n)), (3, xr (11 + 3 * n)), (4, xi x)]) (st' := [xi (↑n), xr 104]) rfl ?_
  refine ex_pfi rfl (by decide) (rfl : xSH[104]? = some _) (by decide) rfl (by decide) (fun h => by cases h) ?_
  refine ex_st 2 (pc' := 23) (ls' := [(0, xr 104), (1, xi 1), (2, xi (↑n)), (3, xr (11 + 3 * n)), (4, xi x)]) (st' := [xi 0, xr 104]) rfl ?_
  refine ex_pfi rfl (by decide) (rfl : xSH[104]? = some _) (by decide) rfl (by decide) (fun h => by cases h) ?_
  rw [wC_beg]
  refine ex_st 4 (pc' := 32) (ls' := [(0, xr 104), (1, xi 1), (2, xi (↑n)), (3, xr (11 + 3 * n)), (4, xi x)]) (st' := [xi ((wC (aJ I 0 v (↑n)) []) 104 2), xi 1, xr 104]) rfl ?_
  rw [wC_f (by decide), aJ_2]
  refine ex_st 2 (pc' := 35) (ls' := [(0, xr 104), (1, xi 1), (2, xi (↑n)), (3, xr (11 + 3 * n)), (4, xi x)]) (st' := [xi 0, xi x, xi 0, xi 1, xr 104]) rfl ?_
  refine ex_inl (M' := xM_A_run) (as := [xr 104, xi 1, xi 0, xi x, xi 0]) (rest := []) (D' := 18) rfl (Nat.le_of_ble_eq_true rfl) (by decide) rfl ⟨rfl, rfl, rfl⟩ ⟨Nat.le_of_ble_eq_true rfl, rfl, rfl⟩ (Nat.le_of_ble_eq_true rfl) rfl ?_
  refine ex_st 2 (pc' := 4) (ls' := [(0, xr 104), (1, xi 1), (2, xi 0), (3, xi x), (4, xi 0)]) (st' := [xi 20, xi 0]) rfl ?_
  refine ex_st 1 (pc' := 7) (ls' := [(0, xr 104), (1, xi 1), (2, xi 0), (3, xi x), (4, xi 0)]) (st' := []) rfl ?_
  refine ex_st 1 (pc' := 8) (ls' := [(0, xr 104), (1, xi 1), (2, xi 0), (3, xi x), (4, xi 0)]) (st' := [xi 0]) rfl ?_
  refine ex_call (ct_G_isKind (by decide)) (by decide) rfl ⟨rfl, rfl, rfl⟩ ⟨Nat.le_of_ble_eq_true rfl, rfl, rfl⟩ (Nat.le_of_ble_eq_true rfl) rfl ?_
  refine ex_bne rfl (fun h0 => ?_) (fun h0 => ?_)
  · refine ex_st 6 (pc' := 24) (ls' := [(0, xr 104), (1, xi 1), (2, xi 0), (3, xi x), (4, xi 0)]) (st' := [xi 1, xr 1003]) rfl ?_
    refine ex_cald (v := 11) (j := 1) rfl (by decide) rfl (by decide) (by decide) (by decide) (rfl) ?_
    refine ex_st 3 (pc' := 30) (ls' := [(5, xi 11), (0, xr 104), (1, xi 1), (2, xi 0), (3, xi x), (4, xi 0)]) (st' := [xi 11, xr 104]) rfl ?_
    refine ex_call (ct_A_note2 (b := 11) (by decide)) (by decide) rfl ⟨rfl, rfl, rfl⟩ ⟨Nat.le_of_ble_eq_true rfl, rfl, rfl⟩ (Nat.le_of_ble_eq_true rfl) rfl ?_
    refine ex_st 5 (pc' := 41) (ls' := [(6, xi 1), (5, xi 11), (0, xr 104), (1, xi 1), (2, xi 0), (3, xi x), (4, xi 0)]) (st' := [xi 11]) rfl ?_
    refine ex_st 1 (pc' := 147) (ls' := [(6, xi 1), (5, xi 11), (0, xr 104), (1, xi 1), (2, xi 0), (3, xi x), (4, xi 0)]) (st' := []) rfl ?_
    refine ex_st 4 (pc' := 153) (ls' := [(6, xi 1), (5, xi 11), (0, xr 104), (1, xi 1), (2, xi 0), (3, xi x), (4, xi 0)]) (st' := [xi ((wC (aJ I 0 v (↑n)) [11]) 104 2), xi 0, xr 104]) rfl ?_
    rw [wC_f (by decide), aJ_2]
    refine ex_st 2 (pc' := 156) (ls' := [(6, xi 1), (5, xi 11), (0, xr 104), (1, xi 1), (2, xi 0), (3, xi x), (4, xi 0)]) (st' := [xi 1, xi x, xi 0, xi 0, xr 104]) rfl ?_
    refine ex_inl (M' := xM_A_run) (as := [xr 104, xi 0, xi 0, xi x, xi 1]) (rest := []) (D' := 17) rfl (Nat.le_of_ble_eq_true rfl) (by decide) rfl ⟨rfl, rfl, rfl⟩ ⟨Nat.le_of_ble_eq_true rfl, rfl, rfl⟩ (Nat.le_of_ble_eq_true rfl) rfl ?_
    refine ex_st 2 (pc' := 4) (ls' := [(0, xr 104), (1, xi 0), (2, xi 0), (3, xi x), (4, xi 1)]) (st' := [xi 20, xi 1]) rfl ?_
    refine ex_st 1 (pc' := 7) (ls' := [(0, xr 104), (1, xi 0), (2, xi 0), (3, xi x), (4, xi 1)]) (st' := []) rfl ?_
    refine ex_st 1 (pc' := 8) (ls' := [(0, xr 104), (1, xi 0), (2, xi 0), (3, xi x), (4, xi 1)]) (st' := [xi 0]) rfl ?_
    refine ex_call (ct_G_isKind (by decide)) (by decide) rfl ⟨rfl, rfl, rfl⟩ ⟨Nat.le_of_ble_eq_true rfl, rfl, rfl⟩ (Nat.le_of_ble_eq_true rfl) rfl ?_
    refine ex_bne rfl (fun h1 => ?_) (fun h1 => ?_)
    · refine ex_st 6 (pc' := 24) (ls' := [(0, xr 104), (1, xi 0), (2, xi 0), (3, xi x), (4, xi 1)]) (st' := [xi 0, xr 1003]) rfl ?_
      refine ex_cald (v := 10) (j := 0) rfl (by decide) rfl (by decide) (by decide) (by decide) (rfl) ?_
      refine ex_st 3 (pc' := 30) (ls' := [(5, xi 10), (0, xr 104), (1, xi 0), (2, xi 0), (3, xi x), (4, xi 1)]) (st' := [xi 10, xr 104]) rfl ?_
      refine ex_call (ct_A_note2 (b := 10) (by decide)) (by decide) rfl ⟨rfl, rfl, rfl⟩ ⟨Nat.le_of_ble_eq_true rfl, rfl, rfl⟩ (Nat.le_of_ble_eq_true rfl) rfl ?_
      refine ex_st 5 (pc' := 41) (ls' := [(6, xi 2), (5, xi 10), (0, xr 104), (1, xi 0), (2, xi 0), (3, xi x), (4, xi 1)]) (st' := [xi 10]) rfl ?_
      refine ex_st 1 (pc' := 140) (ls' := [(6, xi 2), (5, xi 10), (0, xr 104), (1, xi 0), (2, xi 0), (3, xi x), (4, xi 1)]) (st' := []) rfl ?_
      refine ex_st 3 (pc' := 145) (ls' := [(6, xi 2), (5, xi 10), (0, xr 104), (1, xi 0), (2, xi 0), (3, xi x), (4, xi 1)]) (st' := [xi ((wC (aJ I 0 v (↑n)) [11, 10]) 104 4), xi x]) rfl ?_
      rw [wC_f (by decide), aJ_4]
      refine ex_st 1 (pc' := 146) (ls' := [(6, xi 2), (5, xi 10), (0, xr 104), (1, xi 0), (2, xi 0), (3, xi x), (4, xi 1)]) (st' := [xi (x + (↑n))]) rfl ?_
      refine ex_reti rfl rfl ?_
      refine ex_st 2 (pc' := 163) (ls' := [(6, xi 1), (5, xi 11), (0, xr 104), (1, xi 1), (2, xi 0), (3, xi x), (4, xi 0)]) (st' := [xi ((wC (aJ I 0 v (↑n)) [11, 10]) 104 3), xi (x + (↑n))]) rfl ?_
      rw [wC_f (by decide), aJ_3]
      refine ex_st 1 (pc' := 164) (ls' := [(6, xi 1), (5, xi 11), (0, xr 104), (1, xi 1), (2, xi 0), (3, xi x), (4, xi 0)]) (st' := [xi ((x + (↑n)) - v)]) rfl ?_
      refine ex_reti rfl rfl ?_
      refine ex_reti rfl rfl ?_
      exact ⟨rfl, rfl⟩
    · exfalso; omega
  · exfalso; omega
set_option maxRecDepth 8000 in
set_option maxHeartbeats 2000000 in
theorem ct_A_begin_0_2 {sc : List Int} {I : Nat → Nat → Int} {L : Nat → Nat → Int64} {n : Nat} {x v : Int} (hn : n < 6) (hq : I (11 + 3 * n) 0 = 0) (hv : I (11 + 3 * n) 1 = v) : x_CE sc 20 xN_A_begin [xr 104, xi 2, xi (↑n), xr (11 + 3 * n), xi x] (xSH, I, L) (some (xi (((x + (↑n)) - v) * 2))) (xSH, wC (aJ I 0 v (↑n)) [12, 11, 10], L) := by
  refine x_CE.of (M := xM_A_begin) rfl (Nat.le_of_ble_eq_true rfl) ?_
  refine ex_st 2 (pc' := 2) (ls' := [(0, xr 104), (1, xi 2), (2, xi (↑n)), (3, xr (11 + 3 * n)), (4, xi x)]) (st' := [xr (11 + 3 * n), xr 104]) rfl ?_
  refine ex_gfi rfl (by omega) (x_so1 n (by omega)).1 (by decide) (by decide) rfl ?_
  rw [hq]
  refine ex_pfi rfl (by decide) (rfl : xSH[104]? = some _) (by decide) rfl (by decide) (fun h => by cases h) ?_
  refine ex_st 2 (pc' := 10) (ls' := [(0, xr 104), (1, xi 2), (2, xi (↑n)), (3, xr (11 + 3 * n)), (4, xi x)]) (st' := [xr (11 + 3 * n), xr 104]) rfl ?_
  refine ex_gfi rfl (by omega) (x_so1 n (by omega)).1 (by decide) (by decide) rfl ?_
  rw [x_up_far (k := 11 + 3 * n) (j := 1) (k0 := 104) (j0 := 2) (by first | decide | omega), hv]
  refine ex_pfi rfl (by decide) (rfl : xSH[104]? = some _) (by decide) rfl (by decide) (fun h => by cases h) ?_
  refine ex_st 2 (pc' := 18) (ls' := [(0, xr 104), (1, xi 2), (2, xi (↑n)), (3, xr (11 + 3 * n)), (4, xi x)]) (st' := [xi (↑n), xr 104]) rfl ?_
  refine ex_pfi rfl (by decide) (rfl : xSH[104]? = some _) (by decide) rfl (by decide) (fun h => by cases h) ?_
  refine ex_st 2 (pc' := 23) (ls' := [(0, xr 104), (1, xi 2), (2, xi (↑n)), (3, xr (11 + 3 * n)), (4, xi x)]) (st' := [xi 0, xr 104]) rfl ?_
  refine ex_pfi rfl (by decide) (rfl : xSH[104]? = some _) (by decide) rfl (by decide) (fun h => by cases h) ?_
  rw [wC_beg]
  refine ex_st 4 (pc' := 32) (ls' := [(0, xr 104), (1, xi 2), (2, xi (↑n)), (3, xr (11 + 3 * n)), (4, xi x)]) (st' := [xi ((wC (aJ I 0 v (↑n)) []) 104 2), xi 2, xr 104]) rfl ?_
  rw [wC_f (by decide), aJ_2]
  refine ex_st 2 (pc' := 35) (ls' := [(0, xr 104), (1, xi 2), (2, xi (↑n)), (3, xr (11 + 3 * n)), (4, xi x)]) (st' := [xi 0, xi x, xi 0, xi 2, xr 104]) rfl ?_
  refine ex_inl (M' := xM_A_run) (as := [xr 104, xi 2, xi 0, xi x, xi 0]) (rest := []) (D' := 18) rfl (Nat.le_of_ble_eq_true rfl) (by decide) rfl ⟨rfl, rfl, rfl⟩ ⟨Nat.le_of_ble_eq_true rfl, rfl, rfl⟩ (Nat.le_of_ble_eq_true rfl) rfl ?_
  refine ex_st 2 (pc' := 4) (ls' := [(0, xr 104), (1, xi 2), (2, xi 0), (3, xi x), (4, xi 0)]) (st' := [xi 20, xi 0]) rfl ?_
  refine ex_st 1 (pc' := 7) (ls' := [(0, xr 104), (1, xi 2), (2, xi 0), (3, xi x), (4, xi 0)]) (st' := []) rfl ?_
  refine ex_st 1 (pc' := 8) (ls' := [(0, xr 104), (1, xi 2), (2, xi 0), (3, xi x), (4, xi 0)]) (st' := [xi 0]) rfl ?_
  refine ex_call (ct_G_isKind (by decide)) (by decide) rfl ⟨rfl, rfl, rfl⟩ ⟨Nat.le_of_ble_eq_true rfl, rfl, rfl⟩ (Nat.le_of_ble_eq_true rfl) rfl ?_
  refine ex_bne rfl (fun h0 => ?_) (fun h0 => ?_)
  · refine ex_st 6 (pc' := 24) (ls' := [(0, xr 104), (1, xi 2), (2, xi 0), (3, xi x), (4, xi 0)]) (st' := [xi 2, xr 1003]) rfl ?_
    refine ex_cald (v := 12) (j := 2) rfl (by decide) rfl (by decide) (by decide) (by decide) (rfl) ?_
    refine ex_st 3 (pc' := 30) (ls' := [(5, xi 12), (0, xr 104), (1, xi 2), (2, xi 0), (3, xi x), (4, xi 0)]) (st' := [xi 12, xr 104]) rfl ?_
    refine ex_call (ct_A_note2 (b := 12) (by decide)) (by decide) rfl ⟨rfl, rfl, rfl⟩ ⟨Nat.le_of_ble_eq_true rfl, rfl, rfl⟩ (Nat.le_of_ble_eq_true rfl) rfl ?_
    refine ex_st 5 (pc' := 41) (ls' := [(6, xi 1), (5, xi 12), (0, xr 104), (1, xi 2), (2, xi 0), (3, xi x), (4, xi 0)]) (st' := [xi 12]) rfl ?_
    refine ex_st 1 (pc' := 165) (ls' := [(6, xi 1), (5, xi 12), (0, xr 104), (1, xi 2), (2, xi 0), (3, xi x), (4, xi 0)]) (st' := []) rfl ?_
    refine ex_st 4 (pc' := 171) (ls' := [(6, xi 1), (5, xi 12), (0, xr 104), (1, xi 2), (2, xi 0), (3, xi x), (4, xi 0)]) (st' := [xi ((wC (aJ I 0 v (↑n)) [12]) 104 2), xi 1, xr 104]) rfl ?_
    rw [wC_f (by decide), aJ_2]
    refine ex_st 2 (pc' := 174) (ls' := [(6, xi 1), (5, xi 12), (0, xr 104), (1, xi 2), (2, xi 0), (3, xi x), (4, xi 0)]) (st' := [xi 1, xi x, xi 0, xi 1, xr 104]) rfl ?_
    refine ex_inl (M' := xM_A_run) (as := [xr 104, xi 1, xi 0, xi x, xi 1]) (rest := []) (D' := 17) rfl (Nat.le_of_ble_eq_true rfl) (by decide) rfl ⟨rfl, rfl, rfl⟩ ⟨Nat.le_of_ble_eq_true rfl, rfl, rfl⟩ (Nat.le_of_ble_eq_true rfl) rfl ?_
    refine ex_st 2 (pc' := 4) (ls' := [(0, xr 104), (1, xi 1), (2, xi 0), (3, xi x), (4, xi 1)]) (st' := [xi 20, xi 1]) rfl ?_
    refine ex_st 1 (pc' := 7) (ls' := [(0, xr 104), (1, xi 1), (2, xi 0), (3, xi x), (4, xi 1)]) (st' := []) rfl ?_
    refine ex_st 1 (pc' := 8) (ls' := [(0, xr 104), (1, xi 1), (2, xi 0), (3, xi x), (4, xi 1)]) (st' := [xi 0]) rfl ?_
    refine ex_call (ct_G_isKind (by decide)) (by decide) rfl ⟨rfl, rfl, rfl⟩ ⟨Nat.le_of_ble_eq_true rfl, rfl, rfl⟩ (Nat.le_of_ble_eq_true rfl) rfl ?_
    refine ex_bne rfl (fun h1 => ?_) (fun h1 => ?_)
    · refine ex_st 6 (pc' := 24) (ls' := [(0, xr 104), (1, xi 1), (2, xi 0), (3, xi x), (4, xi 1)]) (st' := [xi 1, xr 1003]) rfl ?_
      refine ex_cald (v := 11) (j := 1) rfl (by decide) rfl (by decide) (by decide) (by decide) (rfl) ?_
      refine ex_st 3 (pc' := 30) (ls' := [(5, xi 11), (0, xr 104), (1, xi 1), (2, xi 0), (3, xi x), (4, xi 1)]) (st' := [xi 11, xr 104]) rfl ?_
      refine ex_call (ct_A_note2 (b := 11) (by decide)) (by decide) rfl ⟨rfl, rfl, rfl⟩ ⟨Nat.le_of_ble_eq_true rfl, rfl, rfl⟩ (Nat.le_of_ble_eq_true rfl) rfl ?_
      refine ex_st 5 (pc' := 41) (ls' := [(6, xi 2), (5, xi 11), (0, xr 104), (1, xi 1), (2, xi 0), (3, xi x), (4, xi 1)]) (st' := [xi 11]) rfl ?_
      refine ex_st 1 (pc' := 147) (ls' := [(6, xi 2), (5, xi 11), (0, xr 104), (1, xi 1), (2, xi 0), (3, xi x), (4, xi 1)]) (st' := []) rfl ?_
      refine ex_st 4 (pc' := 153) (ls' := [(6, xi 2), (5, xi 11), (0, xr 104), (1, xi 1), (2, xi 0), (3, xi x), (4, xi 1)]) (st' := [xi ((wC (aJ I 0 v (↑n)) [12, 11]) 104 2), xi 0, xr 104]) rfl ?_
      rw [wC_f (by decide), aJ_2]
      refine ex_st 2 (pc' := 156) (ls' := [(6, xi 2), (5, xi 11), (0, xr 104), (1, xi 1), (2, xi 0), (3, xi x), (4, xi 1)]) (st' := [xi 2, xi x, xi 0, xi 0, xr 104]) rfl ?_
      refine ex_inl (M' := xM_A_run) (as := [xr 104, xi 0, xi 0, xi x, xi 2]) (rest := []) (D' := 16) rfl (Nat.le_of_ble_eq_true rfl) (by decide) rfl ⟨rfl, rfl, rfl⟩ ⟨Nat.le_of_ble_eq_true rfl, rfl, rfl⟩ (Nat.le_of_ble_eq_true rfl) rfl ?_
      refine ex_st 2 (pc' := 4) (ls' := [(0, xr 104), (1, xi 0), (2, xi 0), (3, xi x), (4, xi 2)]) (st' := [xi 20, xi 2]) rfl ?_
      refine ex_st 1 (pc' := 7) (ls' := [(0, xr 104), (1, xi 0), (2, xi 0), (3, xi x), (4, xi 2)]) (st' := []) rfl ?_
      refine ex_st 1 (pc' := 8) (ls' := [(0, xr 104), (1, xi 0), (2, xi 0), (3, xi x), (4, xi 2)]) (st' := [xi 0]) rfl ?_
      refine ex_call (ct_G_isKind (by decide)) (by decide) rfl ⟨rfl, rfl, rfl⟩ ⟨Nat.le_of_ble_eq_true rfl, rfl, rfl⟩ (Nat.le_of_ble_eq_true rfl) rfl ?_
      refine ex_bne rfl (fun h2 => ?_) (fun h2 => ?_)
      · refine ex_st 6 (pc' := 24) (ls' := [(0, xr 104), (1, xi 0), (2, xi 0), (3, xi x), (4, xi 2)]) (st' := [xi 0, xr 1003]) rfl ?_
        refine ex_cald (v := 10) (j := 0) rfl (by decide) rfl (by decide) (by decide) (by decide) (rfl) ?_
        refine ex_st 3 (pc' := 30) (ls' := [(5, xi 10), (0, xr 104), (1, xi 0), (2, xi 0), (3, xi x), (4, xi 2)]) (st' := [xi 10, xr 104]) rfl ?_
        refine ex_call (ct_A_note2 (b := 10) (by decide)) (by decide) rfl ⟨rfl, rfl, rfl⟩ ⟨Nat.le_of_ble_eq_true rfl, rfl, rfl⟩ (Nat.le_of_ble_eq_true rfl) rfl ?_
        refine ex_st 5 (pc' := 41) (ls' := [(6, xi 3), (5, xi 10), (0, xr 104), (1, xi 0), (2, xi 0), (3, xi x), (4, xi 2)]) (st' := [xi 10]) rfl ?_
        refine ex_st 1 (pc' := 140) (ls' := [(6, xi 3), (5, xi 10), (0, xr 104), (1, xi 0), (2, xi 0), (3, xi x), (4, xi 2)]) (st' := []) rfl ?_
        refine ex_st 3 (pc' := 145) (ls' := [(6, xi 3), (5, xi 10), (0, xr 104), (1, xi 0), (2, xi 0), (3, xi x), (4, xi 2)]) (st' := [xi ((wC (aJ I 0 v (↑n)) [12, 11, 10]) 104 4), xi x]) rfl ?_
        rw [wC_f (by decide), aJ_4]
        refine ex_st 1 (pc' := 146) (ls' := [(6, xi 3), (5, xi 10), (0, xr 104), (1, xi 0), (2, xi 0), (3, xi x), (4, xi 2)]) (st' := [xi (x + (↑n))]) rfl ?_
        refine ex_reti rfl rfl ?_
        refine ex_st 2 (pc' := 163) (ls' := [(6, xi 2), (5, xi 11), (0, xr 104), (1, xi 1), (2, xi 0), (3, xi x), (4, xi 1)]) (st' := [xi ((wC (aJ I 0 v (↑n)) [12, 11, 10]) 104 3), xi (x + (↑n))]) rfl ?_
        rw [wC_f (by decide), aJ_3]
        refine ex_st 1 (pc' := 164) (ls' := [(6, xi 2), (5, xi 11), (0, xr 104), (1, xi 1), (2, xi 0), (3, xi x), (4, xi 1)]) (st' := [xi ((x + (↑n)) - v)]) rfl ?_
        refine ex_reti rfl rfl ?_
        refine ex_st 2 (pc' := 179) (ls' := [(6, xi 1), (5, xi 12), (0, xr 104), (1, xi 2), (2, xi 0), (3, xi x), (4, xi 0)]) (st' := [xi (((x + (↑n)) - v) * 2)]) rfl ?_
        refine ex_reti rfl rfl ?_
        refine ex_reti rfl rfl ?_
        exact ⟨rfl, rfl⟩
      · exfalso; omega
    · exfalso; omega
  · exfalso; omega
set_option maxRecDepth 8000 in
set_option maxHeartbeats 2000000 in
theorem ct_A_begin_1_0 {sc : List Int} {I : Nat → Nat → Int} {L : Nat → Nat → Int64} {n : Nat} {x v : Int} (hn : n < 6) (hq : I (11 + 3 * n) 0 = 1) (hv : I (11 + 3 * n) 1 = v) : x_CE sc 20 xN_A_begin [xr 104, xi 0, xi (↑n), xr (11 + 3 * n), xi x] (xSH, I, L) (some (xi (x + (↑n)))) (xSH, wC (aJ I 1 v (↑n)) [10], L) := by
  refine x_CE.of (M := xM_A_begin) rfl (Nat.le_of_ble_eq_true rfl) ?_
  refine ex_st 2 (pc' := 2) (ls' := [(0, xr 104), (1, xi 0), (2, xi (↑n)), (3, xr (11 + 3 * n)), (4, xi x)]) (st' := [xr (11 + 3 * n), xr 104]) rfl ?_
  refine ex_gfi rfl (by omega) (x_so1 n (by omega)).1 (by decide) (by decide) rfl ?_
  rw [hq]
  refine ex_pfi rfl (by decide) (rfl : xSH[104]? = some _) (by decide) rfl (by decide) (fun h => by cases h) ?_
  refine ex_st 2 (pc' := 10) (ls' := [(0, xr 104), (1, xi 0), (2, xi (↑n)), (3, xr (11 + 3 * n)), (4, xi x)]) (st' := [xr (11 + 3 * n), xr 104]) rfl ?_
  refine ex_gfi rfl (by omega) (x_so1 n (by omega)).1 (by decide) (by decide) rfl ?_
  rw [x_up_far (k := 11 + 3 * n) (j := 1) (k0 := 104) (j0 := 2) (by first | decide | omega), hv]
  refine ex_pfi rfl (by decide) (rfl : xSH[104]? = some _) (by decide) rfl (by decide) (fun h => by cases h) ?_
  refine ex_st 2 (pc' := 18) (ls' := [(0, xr 104), (1, xi 0), (2, xi (↑n)), (3, xr (11 + 3 * n)), (4, xi x)]) (st' := [xi (↑n), xr 104]) rfl ?_
  refine ex_pfi rfl (by decide) (rfl : xSH[104]? = some _) (by decide) rfl (by decide) (fun h => by cases h) ?_
  refine ex_st 2 (pc' := 23) (ls' := [(0, xr 104), (1, xi 0), (2, xi (↑n)), (3, xr (11 + 3 * n)), (4, xi x)]) (st' := [xi 0, xr 104]) rfl ?_
  refine ex_pfi rfl (by decide) (rfl : xSH[104]? = some _) (by decide) rfl (by decide) (fun h => by cases h) ?_
  rw [wC_beg]
  refine ex_st 4 (pc' := 32) (ls' := [(0, xr 104), (1, xi 0), (2, xi (↑n)), (3, xr (11 + 3 * n)), (4, xi x)]) (st' := [xi ((wC (aJ I 1 v (↑n)) []) 104 2), xi 0, xr 104]) rfl ?_
  rw [wC_f (by decide), aJ_2]
  refine ex_st 2 (pc' := 35) (ls' := [(0, xr 104), (1, xi 0), (2, xi (↑n)), (3, xr (11 + 3 * n)), (4, xi x)]) (st' := [xi 0, xi x, xi 1, xi 0, xr 104]) rfl ?_
  refine ex_inl (M' := xM_A_run) (as := [xr 104, xi 0, xi 1, xi x, xi 0]) (rest := []) (D' := 18) rfl (Nat.le_of_ble_eq_true rfl) (by decide) rfl ⟨rfl, rfl, rfl⟩ ⟨Nat.le_of_ble_eq_true rfl, rfl, rfl⟩ (Nat.le_of_ble_eq_true rfl) rfl ?_
  refine ex_st 2 (pc' := 4) (ls' := [(0, xr 104), (1, xi 0), (2, xi 1), (3, xi x), (4, xi 0)]) (st' := [xi 20, xi 0]) rfl ?_
  refine ex_st 1 (pc' := 7) (ls' := [(0, xr 104), (1, xi 0), (2, xi 1), (3, xi x), (4, xi 0)]) (st' := []) rfl ?_
  refine ex_st 1 (pc' := 8) (ls' := [(0, xr 104), (1, xi 0), (2, xi 1), (3, xi x), (4, xi 0)]) (st' := [xi 1]) rfl ?_
  refine ex_call (ct_G_isKind (by decide)) (by decide) rfl ⟨rfl, rfl, rfl⟩ ⟨Nat.le_of_ble_eq_true rfl, rfl, rfl⟩ (Nat.le_of_ble_eq_true rfl) rfl ?_
  refine ex_bne rfl (fun h0 => ?_) (fun h0 => ?_)
  · refine ex_st 6 (pc' := 24) (ls' := [(0, xr 104), (1, xi 0), (2, xi 1), (3, xi x), (4, xi 0)]) (st' := [xi 3, xr 1003]) rfl ?_
    refine ex_cald (v := 10) (j := 3) rfl (by decide) rfl (by decide) (by decide) (by decide) (rfl) ?_
    refine ex_st 3 (pc' := 30) (ls' := [(5, xi 10), (0, xr 104), (1, xi 0), (2, xi 1), (3, xi x), (4, xi 0)]) (st' := [xi 10, xr 104]) rfl ?_
    refine ex_call (ct_A_note2 (b := 10) (by decide)) (by decide) rfl ⟨rfl, rfl, rfl⟩ ⟨Nat.le_of_ble_eq_true rfl, rfl, rfl⟩ (Nat.le_of_ble_eq_true rfl) rfl ?_
    refine ex_st 5 (pc' := 41) (ls' := [(6, xi 1), (5, xi 10), (0, xr 104), (1, xi 0), (2, xi 1), (3, xi x), (4, xi 0)]) (st' := [xi 10]) rfl ?_
    refine ex_st 1 (pc' := 140) (ls' := [(6, xi 1), (5, xi 10), (0, xr 104), (1, xi 0), (2, xi 1), (3, xi x), (4, xi 0)]) (st' := []) rfl ?_
    refine ex_st 3 (pc' := 145) (ls' := [(6, xi 1), (5, xi 10), (0, xr 104), (1, xi 0), (2, xi 1), (3, xi x), (4, xi 0)]) (st' := [xi ((wC (aJ I 1 v (↑n)) [10]) 104 4), xi x]) rfl ?_
    rw [wC_f (by decide), aJ_4]
    refine ex_st 1 (pc' := 146) (ls' := [(6, xi 1), (5, xi 10), (0, xr 104), (1, xi 0), (2, xi 1), (3, xi x), (4, xi 0)]) (st' := [xi (x + (↑n))]) rfl ?_
    refine ex_reti rfl rfl ?_
    refine ex_reti rfl rfl ?_
    exact ⟨rfl, rfl⟩
  · exfalso; omega
set_option maxRecDepth 8000 in
set_option maxHeartbeats 2000000 in
theorem ct_A_begin_1_1 {sc : List Int} {I : Nat → Nat → Int} {L : Nat → Nat → Int64} {n : Nat} {x v : Int} (hn : n < 6) (hq : I (11 + 3 * n) 0 = 1) (hv : I (11 + 3 * n) 1 = v) : x_CE sc 20 xN_A_begin [xr 104, xi 1, xi (↑n), xr (11 + 3 * n), xi x] (xSH, I, L) (some (xi ((z_xor ((x + (↑n)) - v) 6)))) (xSH, wC (aJ I 1 v (↑n)) [20, 11, 10], L) := by
  refine x_CE.of (M := xM_A_begin) rfl (Nat.le_of_ble_eq_true rfl) ?_
  refine ex_st 2 (pc' := 2) (ls' := [(0, xr 104), (1, xi 1), (2, xi (↑n)), (3, xr (11 + 3 * n)), (4, xi x)]) (st' := [xr (11 + 3 * n), xr 104]) rfl ?_
  refine ex_gfi rfl (by omega) (x_so1 n (by omega)).1 (by decide) (by decide) rfl ?_
  rw [hq]
  refine ex_pfi rfl (by decide) (rfl : xSH[104]? = some _) (by decide) rfl (by decide) (fun h => by cases h) ?_
  refine ex_st 2 (pc' := 10) (ls' := [(0, xr 104), (1, xi 1), (2, xi (↑n)), (3, xr (11 + 3 * n)), (4, xi x)]) (st' := [xr (11 + 3 * n), xr 104]) rfl ?_
  refine ex_gfi rfl (by omega) (x_so1 n (by omega)).1 (by decide) (by decide) rfl ?_
  rw [x_up_far (k := 11 + 3 * n) (j := 1) (k0 := 104) (j0 := 2) (by first | decide | omega), hv]
  refine ex_pfi rfl (by decide) (rfl : xSH[104]? = some _) (by decide) rfl (by decide) (fun h => by cases h) ?_
  refine ex_st 2 (pc' := 18) (ls' := [(0, xr 104), (1, xi 1), (2, xi (↑n)), (3, xr (11 + 3 * n)), (4, xi x)]) (st' := [xi (↑n), xr 104]) rfl ?_
  refine ex_pfi rfl (by decide) (rfl : xSH[104]? = some _) (by decide) rfl (by decide) (fun h => by cases h) ?_
  refine ex_st 2 (pc' := 23) (ls' := [(0, xr 104), (1, xi 1), (2, xi (↑n)), (3, xr (11 + 3 * n)), (4, xi x)]) (st' := [xi 0, xr 104]) rfl ?_
  refine ex_pfi rfl (by decide) (rfl : xSH[104]? = some _) (by decide) rfl (by decide) (fun h => by cases h) ?_
  rw [wC_beg]
  refine ex_st 4 (pc' := 32) (ls' := [(0, xr 104), (1, xi 1), (2, xi (↑n)), (3, xr (11 + 3 * n)), (4, xi x)]) (st' := [xi ((wC (aJ I 1 v (↑n)) []) 104 2), xi 1, xr 104]) rfl ?_
  rw [wC_f (by decide), aJ_2]
  refine ex_st 2 (pc' := 35) (ls' := [(0, xr 104), (1, xi 1), (2, xi (↑n)), (3, xr (11 + 3 * n)), (4, xi x)]) (st' := [xi 0, xi x, xi 1, xi 1, xr 104]) rfl ?_
  refine ex_inl (M' := xM_A_run) (as := [xr 104, xi 1, xi 1, xi x, xi 0]) (rest := []) (D' := 18) rfl (Nat.le_of_ble_eq_true rfl) (by decide) rfl ⟨rfl, rfl, rfl⟩ ⟨Nat.le_of_ble_eq_true rfl, rfl, rfl⟩ (Nat.le_of_ble_eq_true rfl) rfl ?_
  refine ex_st 2 (pc' := 4) (ls' := [(0, xr 104), (1, xi 1), (2, xi 1), (3, xi x), (4, xi 0)]) (st' := [xi 20, xi 0]) rfl ?_
  refine ex_st 1 (pc' := 7) (ls' := [(0, xr 104), (1, xi 1), (2, xi 1), (3, xi x), (4, xi 0)]) (st' := []) rfl ?_
  refine ex_st 1 (pc' := 8) (ls' := [(0, xr 104), (1, xi 1), (2, xi 1), (3, xi x), (4, xi 0)]) (st' := [xi 1]) rfl ?_
  refine ex_call (ct_G_isKind (by decide)) (by decide) rfl ⟨rfl, rfl, rfl⟩ ⟨Nat.le_of_ble_eq_true rfl, rfl, rfl⟩ (Nat.le_of_ble_eq_true rfl) rfl ?_
  refine ex_bne rfl (fun h0 => ?_) (fun h0 => ?_)
  · refine ex_st 6 (pc' := 24) (ls' := [(0, xr 104), (1, xi 1), (2, xi 1), (3, xi x), (4, xi 0)]) (st' := [xi 4, xr 1003]) rfl ?_
    refine ex_cald (v := 20) (j := 4) rfl (by decide) rfl (by decide) (by decide) (by decide) (rfl) ?_
    refine ex_st 3 (pc' := 30) (ls' := [(5, xi 20), (0, xr 104), (1, xi 1), (2, xi 1), (3, xi x), (4, xi 0)]) (st' := [xi 20, xr 104]) rfl ?_
    refine ex_call (ct_A_note2 (b := 20) (by decide)) (by decide) rfl ⟨rfl, rfl, rfl⟩ ⟨Nat.le_of_ble_eq_true rfl, rfl, rfl⟩ (Nat.le_of_ble_eq_true rfl) rfl ?_
    refine ex_st 5 (pc' := 41) (ls' := [(6, xi 1), (5, xi 20), (0, xr 104), (1, xi 1), (2, xi 1), (3, xi x), (4, xi 0)]) (st' := [xi 20]) rfl ?_
    refine ex_st 1 (pc' := 180) (ls' := [(6, xi 1), (5, xi 20), (0, xr 104), (1, xi 1), (2, xi 1), (3, xi x), (4, xi 0)]) (st' := []) rfl ?_
    refine ex_st 5 (pc' := 186) (ls' := [(6, xi 1), (5, xi 20), (0, xr 104), (1, xi 1), (2, xi 1), (3, xi x), (4, xi 0)]) (st' := [xi 1, xi x, xi 0, xi 1, xr 104]) rfl ?_
    refine ex_inl (M' := xM_A_run) (as := [xr 104, xi 1, xi 0, xi x, xi 1]) (rest := []) (D' := 17) rfl (Nat.le_of_ble_eq_true rfl) (by decide) rfl ⟨rfl, rfl, rfl⟩ ⟨Nat.le_of_ble_eq_true rfl, rfl, rfl⟩ (Nat.le_of_ble_eq_true rfl) rfl ?_
    refine ex_st 2 (pc' := 4) (ls' := [(0, xr 104), (1, xi 1), (2, xi 0), (3, xi x), (4, xi 1)]) (st' := [xi 20, xi 1]) rfl ?_
    refine ex_st 1 (pc' := 7) (ls' := [(0, xr 104), (1, xi 1), (2, xi 0), (3, xi x), (4, xi 1)]) (st' := []) rfl ?_
    refine ex_st 1 (pc' := 8) (ls' := [(0, xr 104), (1, xi 1), (2, xi 0), (3, xi x), (4, xi 1)]) (st' := [xi 0]) rfl ?_
    refine ex_call (ct_G_isKind (by decide)) (by decide) rfl ⟨rfl, rfl, rfl⟩ ⟨Nat.le_of_ble_eq_true rfl, rfl, rfl⟩ (Nat.le_of_ble_eq_true rfl) rfl ?_
    refine ex_bne rfl (fun h1 => ?_) (fun h1 => ?_)
    · refine ex_st 6 (pc' := 24) (ls' := [(0, xr 104), (1, xi 1), (2, xi 0), (3, xi x), (4, xi 1)]) (st' := [xi 1, xr 1003]) rfl ?_
      refine ex_cald (v := 11) (j := 1) rfl (by decide) rfl (by decide) (by decide) (by decide) (rfl) ?_
      refine ex_st 3 (pc' := 30) (ls' := [(5, xi 11), (0, xr 104), (1, xi 1), (2, xi 0), (3, xi x), (4, xi 1)]) (st' := [xi 11, xr 104]) rfl ?_
      refine ex_call (ct_A_note2 (b := 11) (by decide)) (by decide) rfl ⟨rfl, rfl, rfl⟩ ⟨Nat.le_of_ble_eq_true rfl, rfl, rfl⟩ (Nat.le_of_ble_eq_true rfl) rfl ?_
      refine ex_st 5 (pc' := 41) (ls' := [(6, xi 2), (5, xi 11), (0, xr 104), (1, xi 1), (2, xi 0), (3, xi x), (4, xi 1)]) (st' := [xi 11]) rfl ?_
      refine ex_st 1 (pc' := 147) (ls' := [(6, xi 2), (5, xi 11), (0, xr 104), (1, xi 1), (2, xi 0), (3, xi x), (4, xi 1)]) (st' := []) rfl ?_
      refine ex_st 4 (pc' := 153) (ls' := [(6, xi 2), (5, xi 11), (0, xr 104), (1, xi 1), (2, xi 0), (3, xi x), (4, xi 1)]) (st' := [xi ((wC (aJ I 1 v (↑n)) [20, 11]) 104 2), xi 0, xr 104]) rfl ?_
      rw [wC_f (by decide), aJ_2]
      refine ex_st 2 (pc' := 156) (ls' := [(6, xi 2), (5, xi 11), (0, xr 104), (1, xi 1), (2, xi 0), (3, xi x), (4, xi 1)]) (st' := [xi 2, xi x, xi 1, xi 0, xr 104]) rfl ?_
      refine ex_inl (M' := xM_A_run) (as := [xr 104, xi 0, xi 1, xi x, xi 2]) (rest := []) (D' := 16) rfl (Nat.le_of_ble_eq_true rfl) (by decide) rfl ⟨rfl, rfl, rfl⟩ ⟨Nat.le_of_ble_eq_true rfl, rfl, rfl⟩ (Nat.le_of_ble_eq_true rfl) rfl ?_
      refine ex_st 2 (pc' := 4) (ls' := [(0, xr 104), (1, xi 0), (2, xi 1), (3, xi x), (4, xi 2)]) (st' := [xi 20, xi 2]) rfl ?_
      refine ex_st 1 (pc' := 7) (ls' := [(0, xr 104), (1, xi 0), (2, xi 1), (3, xi x), (4, xi 2)]) (st' := []) rfl ?_
      refine ex_st 1 (pc' := 8) (ls' := [(0, xr 104), (1, xi 0), (2, xi 1), (3, xi x), (4, xi 2)]) (st' := [xi 1]) rfl ?_
      refine ex_call (ct_G_isKind (by decide)) (by decide) rfl ⟨rfl, rfl, rfl⟩ ⟨Nat.le_of_ble_eq_true rfl, rfl, rfl⟩ (Nat.le_of_ble_eq_true rfl) rfl ?_
      refine ex_bne rfl (fun h2 => ?_) (fun h2 => ?_)
      · refine ex_st 6 (pc' := 24) (ls' := [(0, xr 104), (1, xi 0), (2, xi 1), (3, xi x), (4, xi 2)]) (st' := [xi 3, xr 1003]) rfl ?_
        refine ex_cald (v := 10) (j := 3) rfl (by decide) rfl (by decide) (by decide) (by decide) (rfl) ?_
        refine ex_st 3 (pc' := 30) (ls' := [(5, xi 10), (0, xr 104), (1, xi 0), (2, xi 1), (3, xi x), (4, xi 2)]) (st' := [xi 10, xr 104]) rfl ?_
        refine ex_call (ct_A_note2 (b := 10) (by decide)) (by decide) rfl ⟨rfl, rfl, rfl⟩ ⟨Nat.le_of_ble_eq_true rfl, rfl, rfl⟩ (Nat.le_of_ble_eq_true rfl) rfl ?_
        refine ex_st 5 (pc' := 41) (ls' := [(6, xi 3), (5, xi 10), (0, xr 104), (1, xi 0), (2, xi 1), (3, xi x), (4, xi 2)]) (st' := [xi 10]) rfl ?_
        refine ex_st 1 (pc' := 140) (ls' := [(6, xi 3), (5, xi 10), (0, xr 104), (1, xi 0), (2, xi 1), (3, xi x), (4, xi 2)]) (st' := []) rfl ?_
        refine ex_st 3 (pc' := 145) (ls' := [(6, xi 3), (5, xi 10), (0, xr 104), (1, xi 0), (2, xi 1), (3, xi x), (4, xi 2)]) (st' := [xi ((wC (aJ I 1 v (↑n)) [20, 11, 10]) 104 4), xi x]) rfl ?_
        rw [wC_f (by decide), aJ_4]
        refine ex_st 1 (pc' := 146) (ls' := [(6, xi 3), (5, xi 10), (0, xr 104), (1, xi 0), (2, xi 1), (3, xi x), (4, xi 2)]) (st' := [xi (x + (↑n))]) rfl ?_
        refine ex_reti rfl rfl ?_
        refine ex_st 2 (pc' := 163) (ls' := [(6, xi 2), (5, xi 11), (0, xr 104), (1, xi 1), (2, xi 0), (3, xi x), (4, xi 1)]) (st' := [xi ((wC (aJ I 1 v (↑n)) [20, 11, 10]) 104 3), xi (x + (↑n))]) rfl ?_
        rw [wC_f (by decide), aJ_3]
        refine ex_st 1 (pc' := 164) (ls' := [(6, xi 2), (5, xi 11), (0, xr 104), (1, xi 1), (2, xi 0), (3, xi x), (4, xi 1)]) (st' := [xi ((x + (↑n)) - v)]) rfl ?_
        refine ex_reti rfl rfl ?_
        refine ex_st 1 (pc' := 191) (ls' := [(6, xi 1), (5, xi 20), (0, xr 104), (1, xi 1), (2, xi 1), (3, xi x), (4, xi 0)]) (st' := [xi 6, xi ((x + (↑n)) - v)]) rfl ?_
        refine ex_ixor rfl ?_
        generalize hzx1 : z_xor ((x + (↑n)) - v) 6 = zx1
        refine ex_reti rfl rfl ?_
        refine ex_reti rfl rfl ?_
        subst hzx1
        exact ⟨rfl, rfl⟩
      · exfalso; omega
    · exfalso; omega
  · exfalso; omega
set_option maxRecDepth 8000 in
set_option maxHeartbeats 2000000 in
theorem ct_A_begin_1_2 {sc : List Int} {I : Nat → Nat → Int} {L : Nat → Nat → Int64} {n : Nat} {x v : Int} (hn : n < 6) (hq : I (11 + 3 * n) 0 = 1) (hv : I (11 + 3 * n) 1 = v) : x_CE sc 20 xN_A_begin [xr 104, xi 2, xi (↑n), xr (11 + 3 * n), xi x] (xSH, I, L) (some (xi ((z_xor ((x + (↑n)) - v) 6) * 2))) (xSH, wC (aJ I 1 v (↑n)) [12, 20, 11, 10], L) := by
  refine x_CE.of (M := xM_A_begin) rfl (Nat.le_of_ble_eq_true rfl) ?_
  refine ex_st 2 (pc' := 2) (ls' := [(0, xr 104), (1, xi 2), (2, xi (↑n)), (3, xr (11 + 3 * n)), (4, xi x)]) (st' := [xr (11 + 3 * n), xr 104]) rfl ?_
  refine ex_gfi rfl (by omega) (x_so1 n (by omega)).1 (by decide) (by decide) rfl ?_
  rw [hq]
  refine ex_pfi rfl (by decide) (rfl : xSH[104]? = some _) (by decide) rfl (by decide) (fun h => by cases h) ?_
  refine ex_st 2 (pc' := 10) (ls' := [(0, xr 104), (1, xi 2), (2, xi (↑n)), (3, xr (11 + 3 * n)), (4, xi x)]) (st' := [xr (11 + 3 * n), xr 104]) rfl ?_
  refine ex_gfi rfl (by omega) (x_so1 n (by omega)).1 (by decide) (by decide) rfl ?_
  rw [x_up_far (k := 11 + 3 * n) (j := 1) (k0 := 104) (j0 := 2) (by first | decide | omega), hv]
  refine ex_pfi rfl (by decide) (rfl : xSH[104]? = some _) (by decide) rfl (by decide) (fun h => by cases h) ?_
  refine ex_st 2 (pc' := 18) (ls' := [(0, xr 104), (1, xi 2), (2, xi (↑n)), (3, xr (11 + 3 * n)), (4, xi x)]) (st' := [xi (↑n), xr 104]) rfl ?_
  refine ex_pfi rfl (by decide) (rfl : xSH[104]? = some _) (by decide) rfl (by decide) (fun h => by cases h) ?_
  refine ex_st 2 (pc' := 23) (ls' := [(0, xr 104), (1, xi 2), (2, xi (↑n)), (3, xr (11 + 3 * n)), (4, xi x)]) (st' := [xi 0, xr 104]) rfl ?_
  refine ex_pfi rfl (by decide) (rfl : xSH[104]? = some _) (by decide) rfl (by decide) (fun h => by cases h) ?_
  rw [wC_beg]
  refine ex_st 4 (pc' := 32) (ls' := [(0, xr 104), (1, xi 2), (2, xi (↑n)), (3, xr (11 + 3 * n)), (4, xi x)]) (st' := [xi ((wC (aJ I 1 v (↑n)) []) 104 2), xi 2, xr 104]) rfl ?_
  rw [wC_f (by decide), aJ_2]
  refine ex_st 2 (pc' := 35) (ls' := [(0, xr 104), (1, xi 2), (2, xi (↑n)), (3, xr (11 + 3 * n)), (4, xi x)]) (st' := [xi 0, xi x, xi 1, xi 2, xr 104]) rfl ?_
  refine ex_inl (M' := xM_A_run) (as := [xr 104, xi 2, xi 1, xi x, xi 0]) (rest := []) (D' := 18) rfl (Nat.le_of_ble_eq_true rfl) (by decide) rfl ⟨rfl, rfl, rfl⟩ ⟨Nat.le_of_ble_eq_true rfl, rfl, rfl⟩ (Nat.le_of_ble_eq_true rfl) rfl ?_
  refine ex_st 2 (pc' := 4) (ls' := [(0, xr 104), (1, xi 2), (2, xi 1), (3, xi x), (4, xi 0)]) (st' := [xi 20, xi 0]) rfl ?_
  refine ex_st 1 (pc' := 7) (ls' := [(0, xr 104), (1, xi 2), (2, xi 1), (3, xi x), (4, xi 0)]) (st' := []) rfl ?_
  refine ex_st 1 (pc' := 8) (ls' := [(0, xr 104), (1, xi 2), (2, xi 1), (3, xi x), (4, xi 0)]) (st' := [xi 1]) rfl ?_
  refine ex_call (ct_G_isKind (by decide)) (by decide) rfl ⟨rfl, rfl, rfl⟩ ⟨Nat.le_of_ble_eq_true rfl, rfl, rfl⟩ (Nat.le_of_ble_eq_true rfl) rfl ?_
  refine ex_bne rfl (fun h0 => ?_) (fun h0 => ?_)
  · refine ex_st 6 (pc' := 24) (ls' := [(0, xr 104), (1, xi 2), (2, xi 1), (3, xi x), (4, xi 0)]) (st' := [xi 5, xr 1003]) rfl ?_
    refine ex_cald (v := 12) (j := 5) rfl (by decide) rfl (by decide) (by decide) (by decide) (rfl) ?_
    refine ex_st 3 (pc' := 30) (ls' := [(5, xi 12), (0, xr 104), (1, xi 2), (2, xi 1), (3, xi x), (4, xi 0)]) (st' := [xi 12, xr 104]) rfl ?_
    refine ex_call (ct_A_note2 (b := 12) (by decide)) (by decide) rfl ⟨rfl, rfl, rfl⟩ ⟨Nat.le_of_ble_eq_true rfl, rfl, rfl⟩ (Nat.le_of_ble_eq_true rfl) rfl ?_
    refine ex_st 5 (pc' := 41) (ls' := [(6, xi 1), (5, xi 12), (0, xr 104), (1, xi 2), (2, xi 1), (3, xi x), (4, xi 0)]) (st' := [xi 12]) rfl ?_
    refine ex_st 1 (pc' := 165) (ls' := [(6, xi 1), (5, xi 12), (0, xr 104), (1, xi 2), (2, xi 1), (3, xi x), (4, xi 0)]) (st' := []) rfl ?_
    refine ex_st 4 (pc' := 171) (ls' := [(6, xi 1), (5, xi 12), (0, xr 104), (1, xi 2), (2, xi 1), (3, xi x), (4, xi 0)]) (st' := [xi ((wC (aJ I 1 v (↑n)) [12]) 104 2), xi 1, xr 104]) rfl ?_
    rw [wC_f (by decide), aJ_2]
    refine ex_st 2 (pc' := 174) (ls' := [(6, xi 1), (5, xi 12), (0, xr 104), (1, xi 2), (2, xi 1), (3, xi x), (4, xi 0)]) (st' := [xi 1, xi x, xi 1, xi 1, xr 104]) rfl ?_
    refine ex_inl (M' := xM_A_run) (as := [xr 104, xi 1, xi 1, xi x, xi 1]) (rest := []) (D' := 17) rfl (Nat.le_of_ble_eq_true rfl) (by decide) rfl ⟨rfl, rfl, rfl⟩ ⟨Nat.le_of_ble_eq_true rfl, rfl, rfl⟩ (Nat.le_of_ble_eq_true rfl) rfl ?_
    refine ex_st 2 (pc' := 4) (ls' := [(0, xr 104), (1, xi 1), (2, xi 1), (3, xi x), (4, xi 1)]) (st' := [xi 20, xi 1]) rfl ?_
    refine ex_st 1 (pc' := 7) (ls' := [(0, xr 104), (1, xi 1), (2, xi 1), (3, xi x), (4, xi 1)]) (st' := []) rfl ?_
    refine ex_st 1 (pc' := 8) (ls' := [(0, xr 104), (1, xi 1), (2, xi 1), (3, xi x), (4, xi 1)]) (st' := [xi 1]) rfl ?_
    refine ex_call (ct_G_isKind (by decide)) (by decide) rfl ⟨rfl, rfl, rfl⟩ ⟨Nat.le_of_ble_eq_true rfl, rfl, rfl⟩ (Nat.le_of_ble_eq_true rfl) rfl ?_
    refine ex_bne rfl (fun h1 => ?_) (fun h1 => ?_)
    · refine ex_st 6 (pc' := 24) (ls' := [(0, xr 104), (1, xi 1), (2, xi 1), (3, xi x), (4, xi 1)]) (st' := [xi 4, xr 1003]) rfl ?_
      refine ex_cald (v := 20) (j := 4) rfl (by decide) rfl (by decide) (by decide) (by decide) (rfl) ?_
      refine ex_st 3 (pc' := 30) (ls' := [(5, xi 20), (0, xr 104), (1, xi 1), (2, xi 1), (3, xi x), (4, xi 1)]) (st' := [xi 20, xr 104]) rfl ?_
      refine ex_call (ct_A_note2 (b := 20) (by decide)) (by decide) rfl ⟨rfl, rfl, rfl⟩ ⟨Nat.le_of_ble_eq_true rfl, rfl, rfl⟩ (Nat.le_of_ble_eq_true rfl) rfl ?_
      refine ex_st 5 (pc' := 41) (ls' := [(6, xi 2), (5, xi 20), (0, xr 104), (1, xi 1), (2, xi 1), (3, xi x), (4, xi 1)]) (st' := [xi 20]) rfl ?_
      refine ex_st 1 (pc' := 180) (ls' := [(6, xi 2), (5, xi 20), (0, xr 104), (1, xi 1), (2, xi 1), (3, xi x), (4, xi 1)]) (st' := []) rfl ?_
      refine ex_st 5 (pc' := 186) (ls' := [(6, xi 2), (5, xi 20), (0, xr 104), (1, xi 1), (2, xi 1), (3, xi x), (4, xi 1)]) (st' := [xi 2, xi x, xi 0, xi 1, xr 104]) rfl ?_
      refine ex_inl (M' := xM_A_run) (as := [xr 104, xi 1, xi 0, xi x, xi 2]) (rest := []) (D' := 16) rfl (Nat.le_of_ble_eq_true rfl) (by decide) rfl ⟨rfl, rfl, rfl⟩ ⟨Nat.le_of_ble_eq_true rfl, rfl, rfl⟩ (Nat.le_of_ble_eq_true rfl) rfl ?_
      refine ex_st 2 (pc' := 4) (ls' := [(0, xr 104), (1, xi 1), (2, xi 0), (3, xi x), (4, xi 2)]) (st' := [xi 20, xi 2]) rfl ?_
      refine ex_st 1 (pc' := 7) (ls' := [(0, xr 104), (1, xi 1), (2, xi 0), (3, xi x), (4, xi 2)]) (st' := []) rfl ?_
      refine ex_st 1 (pc' := 8) (ls' := [(0, xr 104), (1, xi 1), (2, xi 0), (3, xi x), (4, xi 2)]) (st' := [xi 0]) rfl ?_
      refine ex_call (ct_G_isKind (by decide)) (by decide) rfl ⟨rfl, rfl, rfl⟩ ⟨Nat.le_of_ble_eq_true rfl, rfl, rfl⟩ (Nat.le_of_ble_eq_true rfl) rfl ?_
      refine ex_bne rfl (fun h2 => ?_) (fun h2 => ?_)
      · refine ex_st 6 (pc' := 24) (ls' := [(0, xr 104), (1, xi 1), (2, xi 0), (3, xi x), (4, xi 2)]) (st' := [xi 1, xr 1003]) rfl ?_
        refine ex_cald (v := 11) (j := 1) rfl (by decide) rfl (by decide) (by decide) (by decide) (rfl) ?_
        refine ex_st 3 (pc' := 30) (ls' := [(5, xi 11), (0, xr 104), (1, xi 1), (2, xi 0), (3, xi x), (4, xi 2)]) (st' := [xi 11, xr 104]) rfl ?_
        refine ex_call (ct_A_note2 (b := 11) (by decide)) (by decide) rfl ⟨rfl, rfl, rfl⟩ ⟨Nat.le_of_ble_eq_true rfl, rfl, rfl⟩ (Nat.le_of_ble_eq_true rfl) rfl ?_
        refine ex_st 5 (pc' := 41) (ls' := [(6, xi 3), (5, xi 11), (0, xr 104), (1, xi 1), (2, xi 0), (3, xi x), (4, xi 2)]) (st' := [xi 11]) rfl ?_
        refine ex_st 1 (pc' := 147) (ls' := [(6, xi 3), (5, xi 11), (0, xr 104), (1, xi 1), (2, xi 0), (3, xi x), (4, xi 2)]) (st' := []) rfl ?_
        refine ex_st 4 (pc' := 153) (ls' := [(6, xi 3), (5, xi 11), (0, xr 104), (1, xi 1), (2, xi 0), (3, xi x), (4, xi 2)]) (st' := [xi ((wC (aJ I 1 v (↑n)) [12, 20, 11]) 104 2), xi 0, xr 104]) rfl ?_
        rw [wC_f (by decide), aJ_2]
        refine ex_st 2 (pc' := 156) (ls' := [(6, xi 3), (5, xi 11), (0, xr 104), (1, xi 1), (2, xi 0), (3, xi x), (4, xi 2)]) (st' := [xi 3, xi x, xi 1, xi 0, xr 104]) rfl ?_
        refine ex_inl (M' := xM_A_run) (as := [xr 104, xi 0, xi 1, xi x, xi 3]) (rest := []) (D' := 15) rfl (Nat.le_of_ble_eq_true rfl) (by decide) rfl ⟨rfl, rfl, rfl⟩ ⟨Nat.le_of_ble_eq_true rfl, rfl, rfl⟩ (Nat.le_of_ble_eq_true rfl) rfl ?_
        refine ex_st 2 (pc' := 4) (ls' := [(0, xr 104), (1, xi 0), (2, xi 1), (3, xi x), (4, xi 3)]) (st' := [xi 20, xi 3]) rfl ?_
        refine ex_st 1 (pc' := 7) (ls' := [(0, xr 104), (1, xi 0), (2, xi 1), (3, xi x), (4, xi 3)]) (st' := []) rfl ?_
        refine ex_st 1 (pc' := 8) (ls' := [(0, xr 104), (1, xi 0), (2, xi 1), (3, xi x), (4, xi 3)]) (st' := [xi 1]) rfl ?_
        refine ex_call (ct_G_isKind (by decide)) (by decide) rfl ⟨rfl, rfl, rfl⟩ ⟨Nat.le_of_ble_eq_true rfl, rfl, rfl⟩ (Nat.le_of_ble_eq_true rfl) rfl ?_
        refine ex_bne rfl (fun h3 => ?_) (fun h3 => ?_)
        · refine ex_st 6 (pc' := 24) (ls' := [(0, xr 104), (1, xi 0), (2, xi 1), (3, xi x), (4, xi 3)]) (st' := [xi 3, xr 1003]) rfl ?_
          refine ex_cald (v := 10) (j := 3) rfl (by decide) rfl (by decide) (by decide) (by decide) (rfl) ?_
          refine ex_st 3 (pc' := 30) (ls' := [(5, xi 10), (0, xr 104), (1, xi 0), (2, xi 1), (3, xi x), (4, xi 3)]) (st' := [xi 10, xr 104]) rfl ?_
          refine ex_call (ct_A_note2 (b := 10) (by decide)) (by decide) rfl ⟨rfl, rfl, rfl⟩ ⟨Nat.le_of_ble_eq_true rfl, rfl, rfl⟩ (Nat.le_of_ble_eq_true rfl) rfl ?_
          refine ex_st 5 (pc' := 41) (ls' := [(6, xi 4), (5, xi 10), (0, xr 104), (1, xi 0), (2, xi 1), (3, xi x), (4, xi 3)]) (st' := [xi 10]) rfl ?_
          refine ex_st 1 (pc' := 140) (ls' := [(6, xi 4), (5, xi 10), (0, xr 104), (1, xi 0), (2, xi 1), (3, xi x), (4, xi 3)]) (st' := []) rfl ?_
          refine ex_st 3 (pc' := 145) (ls' := [(6, xi 4), (5, xi 10), (0, xr 104), (1, xi 0), (2, xi 1), (3, xi x), (4, xi 3)]) (st' := [xi ((wC (aJ I 1 v (↑n)) [12, 20, 11, 10]) 104 4), xi x]) rfl ?_
          rw [wC_f (by decide), aJ_4]
          refine ex_st 1 (pc' := 146) (ls' := [(6, xi 4), (5, xi 10), (0, xr 104), (1, xi 0), (2, xi 1), (3, xi x), (4, xi 3)]) (st' := [xi (x + (↑n))]) rfl ?_
          refine ex_reti rfl rfl ?_
          refine ex_st 2 (pc' := 163) (ls' := [(6, xi 3), (5, xi 11), (0, xr 104), (1, xi 1), (2, xi 0), (3, xi x), (4, xi 2)]) (st' := [xi ((wC (aJ I 1 v (↑n)) [12, 20, 11, 10]) 104 3), xi (x + (↑n))]) rfl ?_
          rw [wC_f (by decide), aJ_3]
          refine ex_st 1 (pc' := 164) (ls' := [(6, xi 3), (5, xi 11), (0, xr 104), (1, xi 1), (2, xi 0), (3, xi x), (4, xi 2)]) (st' := [xi ((x + (↑n)) - v)]) rfl ?_
          refine ex_reti rfl rfl ?_
          refine ex_st 1 (pc' := 191) (ls' := [(6, xi 2), (5, xi 20), (0, xr 104), (1, xi 1), (2, xi 1), (3, xi x), (4, xi 1)]) (st' := [xi 6, xi ((x + (↑n)) - v)]) rfl ?_
          refine ex_ixor rfl ?_
          generalize hzx1 : z_xor ((x + (↑n)) - v) 6 = zx1
          refine ex_reti rfl rfl ?_
          refine ex_st 2 (pc' := 179) (ls' := [(6, xi 1), (5, xi 12), (0, xr 104), (1, xi 2), (2, xi 1), (3, xi x), (4, xi 0)]) (st' := [xi (zx1 * 2)]) rfl ?_
          refine ex_reti rfl rfl ?_
          refine ex_reti rfl rfl ?_
          subst hzx1
          exact ⟨rfl, rfl⟩
        · exfalso; omega
      · exfalso; omega
    · exfalso; omega
  · exfalso; omega
set_option maxRecDepth 8000 in
set_option maxHeartbeats 2000000 in
theorem ct_A_begin_2_0 {sc : List Int} {I : Nat → Nat → Int} {L : Nat → Nat → Int64} {n : Nat} {x v : Int} (hn : n < 6) (hq : I (11 + 3 * n) 0 = 2) (hv : I (11 + 3 * n) 1 = v) : x_CE sc 20 xN_A_begin [xr 104, xi 0, xi (↑n), xr (11 + 3 * n), xi x] (xSH, I, L) (some (xi ((x * 3) + (↑n)))) (xSH, wC (aJ I 2 v (↑n)) [30, 10], L) := by
  refine x_CE.of (M := xM_A_begin) rfl (Nat.le_of_ble_eq_true rfl) ?_
  refine ex_st 2 (pc' := 2) (ls' := [(0, xr 104), (1, xi 0), (2, xi (↑n)), (3, xr (11 + 3 * n)), (4, xi x)]) (st' := [xr (11 + 3 * n), xr 104]) rfl ?_
  refine ex_gfi rfl (by omega) (x_so1 n (by omega)).1 (by decide) (by decide) rfl ?_
  rw [hq]
  refine ex_pfi rfl (by decide) (rfl : xSH[104]? = some _) (by decide) rfl (by decide) (fun h => by cases h) ?_
  refine ex_st 2 (pc' := 10) (ls' := [(0, xr 104), (1, xi 0), (2, xi (↑n)), (3, xr (11 + 3 * n)), (4, xi x)]) (st' := [xr (11 + 3 * n), xr 104]) rfl ?_
  refine ex_gfi rfl (by omega) (x_so1 n (by omega)).1 (by decide) (by decide) rfl ?_
  rw [x_up_far (k := 11 + 3 * n) (j := 1) (k0 := 104) (j0 := 2) (by first | decide | omega), hv]
  refine ex_pfi rfl (by decide) (rfl : xSH[104]? = some _) (by decide) rfl (by decide) (fun h => by cases h) ?_
  refine ex_st 2 (pc' := 18) (ls' := [(0, xr 104), (1, xi 0), (2, xi (↑n)), (3, xr (11 + 3 * n)), (4, xi x)]) (st' := [xi (↑n), xr 104]) rfl ?_
  refine ex_pfi rfl (by decide) (rfl : xSH[104]? = some _) (by decide) rfl (by decide) (fun h => by cases h) ?_
  refine ex_st 2 (pc' := 23) (ls' := [(0, xr 104), (1, xi 0), (2, xi (↑n)), (3, xr (11 + 3 * n)), (4, xi x)]) (st' := [xi 0, xr 104]) rfl ?_
  refine ex_pfi rfl (by decide) (rfl : xSH[104]? = some _) (by decide) rfl (by decide) (fun h => by cases h) ?_
  rw [wC_beg]
  refine ex_st 4 (pc' := 32) (ls' := [(0, xr 104), (1, xi 0), (2, xi (↑n)), (3, xr (11 + 3 * n)), (4, xi x)]) (st' := [xi ((wC (aJ I 2 v (↑n)) []) 104 2), xi 0, xr 104]) rfl ?_
  rw [wC_f (by decide), aJ_2]
  refine ex_st 2 (pc' := 35) (ls' := [(0, xr 104), (1, xi 0), (2, xi (↑n)), (3, xr (11 + 3 * n)), (4, xi x)]) (st' := [xi 0, xi x, xi 2, xi 0, xr 104]) rfl ?_
  refine ex_inl (M' := xM_A_run) (as := [xr 104, xi 0, xi 2, xi x, xi 0]) (rest := []) (D' := 18) rfl (Nat.le_of_ble_eq_true rfl) (by decide) rfl ⟨rfl, rfl, rfl⟩ ⟨Nat.le_of_ble_eq_true rfl, rfl, rfl⟩ (Nat.le_of_ble_eq_true rfl) rfl ?_
  refine ex_st 2 (pc' := 4) (ls' := [(0, xr 104), (1, xi 0), (2, xi 2), (3, xi x), (4, xi 0)]) (st' := [xi 20, xi 0]) rfl ?_
  refine ex_st 1 (pc' := 7) (ls' := [(0, xr 104), (1, xi 0), (2, xi 2), (3, xi x), (4, xi 0)]) (st' := []) rfl ?_
  refine ex_st 1 (pc' := 8) (ls' := [(0, xr 104), (1, xi 0), (2, xi 2), (3, xi x), (4, xi 0)]) (st' := [xi 2]) rfl ?_
  refine ex_call (ct_G_isKind (by decide)) (by decide) rfl ⟨rfl, rfl, rfl⟩ ⟨Nat.le_of_ble_eq_true rfl, rfl, rfl⟩ (Nat.le_of_ble_eq_true rfl) rfl ?_
  refine ex_bne rfl (fun h0 => ?_) (fun h0 => ?_)
  · refine ex_st 6 (pc' := 24) (ls' := [(0, xr 104), (1, xi 0), (2, xi 2), (3, xi x), (4, xi 0)]) (st' := [xi 6, xr 1003]) rfl ?_
    refine ex_cald (v := 30) (j := 6) rfl (by decide) rfl (by decide) (by decide) (by decide) (rfl) ?_
    refine ex_st 3 (pc' := 30) (ls' := [(5, xi 30), (0, xr 104), (1, xi 0), (2, xi 2), (3, xi x), (4, xi 0)]) (st' := [xi 30, xr 104]) rfl ?_
    refine ex_call (ct_A_note2 (b := 30) (by decide)) (by decide) rfl ⟨rfl, rfl, rfl⟩ ⟨Nat.le_of_ble_eq_true rfl, rfl, rfl⟩ (Nat.le_of_ble_eq_true rfl) rfl ?_
    refine ex_st 5 (pc' := 41) (ls' := [(6, xi 1), (5, xi 30), (0, xr 104), (1, xi 0), (2, xi 2), (3, xi x), (4, xi 0)]) (st' := [xi 30]) rfl ?_
    refine ex_st 1 (pc' := 193) (ls' := [(6, xi 1), (5, xi 30), (0, xr 104), (1, xi 0), (2, xi 2), (3, xi x), (4, xi 0)]) (st' := []) rfl ?_
    refine ex_st 7 (pc' := 201) (ls' := [(6, xi 1), (5, xi 30), (0, xr 104), (1, xi 0), (2, xi 2), (3, xi x), (4, xi 0)]) (st' := [xi 1, xi (x * 3), xi 0, xi 0, xr 104]) rfl ?_
    refine ex_inl (M' := xM_A_run) (as := [xr 104, xi 0, xi 0, xi (x * 3), xi 1]) (rest := []) (D' := 17) rfl (Nat.le_of_ble_eq_true rfl) (by decide) rfl ⟨rfl, rfl, rfl⟩ ⟨Nat.le_of_ble_eq_true rfl, rfl, rfl⟩ (Nat.le_of_ble_eq_true rfl) rfl ?_
    refine ex_st 2 (pc' := 4) (ls' := [(0, xr 104), (1, xi 0), (2, xi 0), (3, xi (x * 3)), (4, xi 1)]) (st' := [xi 20, xi 1]) rfl ?_
    refine ex_st 1 (pc' := 7) (ls' := [(0, xr 104), (1, xi 0), (2, xi 0), (3, xi (x * 3)), (4, xi 1)]) (st' := []) rfl ?_
    refine ex_st 1 (pc' := 8) (ls' := [(0, xr 104), (1, xi 0), (2, xi 0), (3, xi (x * 3)), (4, xi 1)]) (st' := [xi 0]) rfl ?_
    refine ex_call (ct_G_isKind (by decide)) (by decide) rfl ⟨rfl, rfl, rfl⟩ ⟨Nat.le_of_ble_eq_true rfl, rfl, rfl⟩ (Nat.le_of_ble_eq_true rfl) rfl ?_
    refine ex_bne rfl (fun h1 => ?_) (fun h1 => ?_)
    · refine ex_st 6 (pc' := 24) (ls' := [(0, xr 104), (1, xi 0), (2, xi 0), (3, xi (x * 3)), (4, xi 1)]) (st' := [xi 0, xr 1003]) rfl ?_
      refine ex_cald (v := 10) (j := 0) rfl (by decide) rfl (by decide) (by decide) (by decide) (rfl) ?_
      refine ex_st 3 (pc' := 30) (ls' := [(5, xi 10), (0, xr 104), (1, xi 0), (2, xi 0), (3, xi (x * 3)), (4, xi 1)]) (st' := [xi 10, xr 104]) rfl ?_
      refine ex_call (ct_A_note2 (b := 10) (by decide)) (by decide) rfl ⟨rfl, rfl, rfl⟩ ⟨Nat.le_of_ble_eq_true rfl, rfl, rfl⟩ (Nat.le_of_ble_eq_true rfl) rfl ?_
      refine ex_st 5 (pc' := 41) (ls' := [(6, xi 2), (5, xi 10), (0, xr 104), (1, xi 0), (2, xi 0), (3, xi (x * 3)), (4, xi 1)]) (st' := [xi 10]) rfl ?_
      refine ex_st 1 (pc' := 140) (ls' := [(6, xi 2), (5, xi 10), (0, xr 104), (1, xi 0), (2, xi 0), (3, xi (x * 3)), (4, xi 1)]) (st' := []) rfl ?_
      refine ex_st 3 (pc' := 145) (ls' := [(6, xi 2), (5, xi 10), (0, xr 104), (1, xi 0), (2, xi 0), (3, xi (x * 3)), (4, xi 1)]) (st' := [xi ((wC (aJ I 2 v (↑n)) [30, 10]) 104 4), xi (x * 3)]) rfl ?_
      rw [wC_f (by decide), aJ_4]
      refine ex_st 1 (pc' := 146) (ls' := [(6, xi 2), (5, xi 10), (0, xr 104), (1, xi 0), (2, xi 0), (3, xi (x * 3)), (4, xi 1)]) (st' := [xi ((x * 3) + (↑n))]) rfl ?_
      refine ex_reti rfl rfl ?_
      refine ex_reti rfl rfl ?_
      refine ex_reti rfl rfl ?_
      exact ⟨rfl, rfl⟩
    · exfalso; omega
  · exfalso; omega
set_option maxRecDepth 8000 in
set_option maxHeartbeats 2000000 in
theorem ct_A_begin_2_1 {sc : List Int} {I : Nat → Nat → Int} {L : Nat → Nat → Int64} {n : Nat} {x v : Int} (hn : n < 6) (hq : I (11 + 3 * n) 0 = 2) (hv : I (11 + 3 * n) 1 = v) : x_CE sc 20 xN_A_begin [xr 104, xi 1, xi (↑n), xr (11 + 3 * n), xi x] (xSH, I, L) (some (xi (((x * 3) + (↑n)) - v))) (xSH, wC (aJ I 2 v (↑n)) [11, 30, 10], L) := by
  refine x_CE.of (M := xM_A_begin) rfl (Nat.le_of_ble_eq_true rfl) ?_
  refine ex_st 2 (pc' := 2) (ls' := [(0, xr 104), (1, xi 1), (2, xi (↑n)), (3, xr (11 + 3 * n)), (4, xi x)]) (st' := [xr (11 + 3 * n), xr 104]) rfl ?_
  refine ex_gfi rfl (by omega) (x_so1 n (by omega)).1 (by decide) (by decide) rfl ?_
  rw [hq]
  refine ex_pfi rfl (by decide) (rfl : xSH[104]? = some _) (by decide) rfl (by decide) (fun h => by cases h) ?_
  refine ex_st 2 (pc' := 10) (ls' := [(0, xr 104), (1, xi 1), (2, xi (↑n)), (3, xr (11 + 3 * n)), (4, xi x)]) (st' := [xr (11 + 3 * n), xr 104]) rfl ?_
  refine ex_gfi rfl (by omega) (x_so1 n (by omega)).1 (by decide) (by decide) rfl ?_
  rw [x_up_far (k := 11 + 3 * n) (j := 1) (k0 := 104) (j0 := 2) (by first | decide | omega), hv]
  refine ex_pfi rfl (by decide) (rfl : xSH[104]? = some _) (by decide) rfl (by decide) (fun h => by cases h) ?_
  refine ex_st 2 (pc' := 18) (ls' := [(0, xr 104), (1, xi 1), (2, xi (↑n)), (3, xr (11 + 3 * n)), (4, xi x)]) (st' := [xi (↑n), xr 104]) rfl ?_
  refine ex_pfi rfl (by decide) (rfl : xSH[104]? = some _) (by decide) rfl (by decide) (fun h => by cases h) ?_
  refine ex_st 2 (pc' := 23) (ls' := [(0, xr 104), (1, xi 1), (2, xi (↑n)), (3, xr (11 + 3 * n)), (4, xi x)]) (st' := [xi 0, xr 104]) rfl ?_
  refine ex_pfi rfl (by decide) (rfl : xSH[104]? = some _) (by decide) rfl (by decide) (fun h => by cases h) ?_
  rw [wC_beg]
  refine ex_st 4 (pc' := 32) (ls' := [(0, xr 104), (1, xi 1), (2, xi (↑n)), (3, xr (11 + 3 * n)), (4, xi x)]) (st' := [xi ((wC (aJ I 2 v (↑n)) []) 104 2), xi 1, xr 104]) rfl ?_
  rw [wC_f (by decide), aJ_2]
  refine ex_st 2 (pc' := 35) (ls' := [(0, xr 104), (1, xi 1), (2, xi (↑n)), (3, xr (11 + 3 * n)), (4, xi x)]) (st' := [xi 0, xi x, xi 2, xi 1, xr 104]) rfl ?_
  refine ex_inl (M' := xM_A_run) (as := [xr 104, xi 1, xi 2, xi x, xi 0]) (rest := []) (D' := 18) rfl (Nat.le_of_ble_eq_true rfl) (by decide) rfl ⟨rfl, rfl, rfl⟩ ⟨Nat.le_of_ble_eq_true rfl, rfl, rfl⟩ (Nat.le_of_ble_eq_true rfl) rfl ?_
  refine ex_st 2 (pc' := 4) (ls' := [(0, xr 104), (1, xi 1), (2, xi 2), (3, xi x), (4, xi 0)]) (st' := [xi 20, xi 0]) rfl ?_
  refine ex_st 1 (pc' := 7) (ls' := [(0, xr 104), (1, xi 1), (2, xi 2), (3, xi x), (4, xi 0)]) (st' := []) rfl ?_
  refine ex_st 1 (pc' := 8) (ls' := [(0, xr 104), (1, xi 1), (2, xi 2), (3, xi x), (4, xi 0)]) (st' := [xi 2]) rfl ?_
  refine ex_call (ct_G_isKind (by decide)) (by decide) rfl ⟨rfl, rfl, rfl⟩ ⟨Nat.le_of_ble_eq_true rfl, rfl, rfl⟩ (Nat.le_of_ble_eq_true rfl) rfl ?_
  refine ex_bne rfl (fun h0 => ?_) (fun h0 => ?_)
  · refine ex_st 6 (pc' := 24) (ls' := [(0, xr 104), (1, xi 1), (2, xi 2), (3, xi x), (4, xi 0)]) (st' := [xi 7, xr 1003]) rfl ?_
    refine ex_cald (v := 11) (j := 7) rfl (by decide) rfl (by decide) (by decide) (by decide) (rfl) ?_
    refine ex_st 3 (pc' := 30) (ls' := [(5, xi 11), (0, xr 104), (1, xi 1), (2, xi 2), (3, xi x), (4, xi 0)]) (st' := [xi 11, xr 104]) rfl ?_
    refine ex_call (ct_A_note2 (b := 11) (by decide)) (by decide) rfl ⟨rfl, rfl, rfl⟩ ⟨Nat.le_of_ble_eq_true rfl, rfl, rfl⟩ (Nat.le_of_ble_eq_true rfl) rfl ?_
    refine ex_st 5 (pc' := 41) (ls' := [(6, xi 1), (5, xi 11), (0, xr 104), (1, xi 1), (2, xi 2), (3, xi x), (4, xi 0)]) (st' := [xi 11]) rfl ?_
    refine ex_st 1 (pc' := 147) (ls' := [(6, xi 1), (5, xi 11), (0, xr 104), (1, xi 1), (2, xi 2), (3, xi x), (4, xi 0)]) (st' := []) rfl ?_
    refine ex_st 4 (pc' := 153) (ls' := [(6, xi 1), (5, xi 11), (0, xr 104), (1, xi 1), (2, xi 2), (3, xi x), (4, xi 0)]) (st' := [xi ((wC (aJ I 2 v (↑n)) [11]) 104 2), xi 0, xr 104]) rfl ?_
    rw [wC_f (by decide), aJ_2]
    refine ex_st 2 (pc' := 156) (ls' := [(6, xi 1), (5, xi 11), (0, xr 104), (1, xi 1), (2, xi 2), (3, xi x), (4, xi 0)]) (st' := [xi 1, xi x, xi 2, xi 0, xr 104]) rfl ?_
    refine ex_inl (M' := xM_A_run) (as := [xr 104, xi 0, xi 2, xi x, xi 1]) (rest := []) (D' := 17) rfl (Nat.le_of_ble_eq_true rfl) (by decide) rfl ⟨rfl, rfl, rfl⟩ ⟨Nat.le_of_ble_eq_true rfl, rfl, rfl⟩ (Nat.le_of_ble_eq_true rfl) rfl ?_
    refine ex_st 2 (pc' := 4) (ls' := [(0, xr 104), (1, xi 0), (2, xi 2), (3, xi x), (4, xi 1)]) (st' := [xi 20, xi 1]) rfl ?_
    refine ex_st 1 (pc' := 7) (ls' := [(0, xr 104), (1, xi 0), (2, xi 2), (3, xi x), (4, xi 1)]) (st' := []) rfl ?_
    refine ex_st 1 (pc' := 8) (ls' := [(0, xr 104), (1, xi 0), (2, xi 2), (3, xi x), (4, xi 1)]) (st' := [xi 2]) rfl ?_
    refine ex_call (ct_G_isKind (by decide)) (by decide) rfl ⟨rfl, rfl, rfl⟩ ⟨Nat.le_of_ble_eq_true rfl, rfl, rfl⟩ (Nat.le_of_ble_eq_true rfl) rfl ?_
    refine ex_bne rfl (fun h1 => ?_) (fun h1 => ?_)
    · refine ex_st 6 (pc' := 24) (ls' := [(0, xr 104), (1, xi 0), (2, xi 2), (3, xi x), (4, xi 1)]) (st' := [xi 6, xr 1003]) rfl ?_
      refine ex_cald (v := 30) (j := 6) rfl (by decide) rfl (by decide) (by decide) (by decide) (rfl) ?_
      refine ex_st 3 (pc' := 30) (ls' := [(5, xi 30), (0, xr 104), (1, xi 0), (2, xi 2), (3, xi x), (4, xi 1)]) (st' := [xi 30, xr 104]) rfl ?_
      refine ex_call (ct_A_note2 (b := 30) (by decide)) (by decide) rfl ⟨rfl, rfl, rfl⟩ ⟨Nat.le_of_ble_eq_true rfl, rfl, rfl⟩ (Nat.le_of_ble_eq_true rfl) rfl ?_
      refine ex_st 5 (pc' := 41) (ls' := [(6, xi 2), (5, xi 30), (0, xr 104), (1, xi 0), (2, xi 2), (3, xi x), (4, xi 1)]) (st' := [xi 30]) rfl ?_
      refine ex_st 1 (pc' := 193) (ls' := [(6, xi 2), (5, xi 30), (0, xr 104), (1, xi 0), (2, xi 2), (3, xi x), (4, xi 1)]) (st' := []) rfl ?_
      refine ex_st 7 (pc' := 201) (ls' := [(6, xi 2), (5, xi 30), (0, xr 104), (1, xi 0), (2, xi 2), (3, xi x), (4, xi 1)]) (st' := [xi 2, xi (x * 3), xi 0, xi 0, xr 104]) rfl ?_
      refine ex_inl (M' := xM_A_run) (as := [xr 104, xi 0, xi 0, xi (x * 3), xi 2]) (rest := []) (D' := 16) rfl (Nat.le_of_ble_eq_true rfl) (by decide) rfl ⟨rfl, rfl, rfl⟩ ⟨Nat.le_of_ble_eq_true rfl, rfl, rfl⟩ (Nat.le_of_ble_eq_true rfl) rfl ?_
      refine ex_st 2 (pc' := 4) (ls' := [(0, xr 104), (1, xi 0), (2, xi 0), (3, xi (x * 3)), (4, xi 2)]) (st' := [xi 20, xi 2]) rfl ?_
      refine ex_st 1 (pc' := 7) (ls' := [(0, xr 104), (1, xi 0), (2, xi 0), (3, xi (x * 3)), (4, xi 2)]) (st' := []) rfl ?_
      refine ex_st 1 (pc' := 8) (ls' := [(0, xr 104), (1, xi 0), (2, xi 0), (3, xi (x * 3)), (4, xi 2)]) (st' := [xi 0]) rfl ?_
      refine ex_call (ct_G_isKind (by decide)) (by decide) rfl ⟨rfl, rfl, rfl⟩ ⟨Nat.le_of_ble_eq_true rfl, rfl, rfl⟩ (Nat.le_of_ble_eq_true rfl) rfl ?_
      refine ex_bne rfl (fun h2 => ?_) (fun h2 => ?_)
      · refine ex_st 6 (pc' := 24) (ls' := [(0, xr 104), (1, xi 0), (2, xi 0), (3, xi (x * 3)), (4, xi 2)]) (st' := [xi 0, xr 1003]) rfl ?_
        refine ex_cald (v := 10) (j := 0) rfl (by decide) rfl (by decide) (by decide) (by decide) (rfl) ?_
        refine ex_st 3 (pc' := 30) (ls' := [(5, xi 10), (0, xr 104), (1, xi 0), (2, xi 0), (3, xi (x * 3)), (4, xi 2)]) (st' := [xi 10, xr 104]) rfl ?_
        refine ex_call (ct_A_note2 (b := 10) (by decide)) (by decide) rfl ⟨rfl, rfl, rfl⟩ ⟨Nat.le_of_ble_eq_true rfl, rfl, rfl⟩ (Nat.le_of_ble_eq_true rfl) rfl ?_
        refine ex_st 5 (pc' := 41) (ls' := [(6, xi 3), (5, xi 10), (0, xr 104), (1, xi 0), (2, xi 0), (3, xi (x * 3)), (4, xi 2)]) (st' := [xi 10]) rfl ?_
        refine ex_st 1 (pc' := 140) (ls' := [(6, xi 3), (5, xi 10), (0, xr 104), (1, xi 0), (2, xi 0), (3, xi (x * 3)), (4, xi 2)]) (st' := []) rfl ?_
        refine ex_st 3 (pc' := 145) (ls' := [(6, xi 3), (5, xi 10), (0, xr 104), (1, xi 0), (2, xi 0), (3, xi (x * 3)), (4, xi 2)]) (st' := [xi ((wC (aJ I 2 v (↑n)) [11, 30, 10]) 104 4), xi (x * 3)]) rfl ?_
        rw [wC_f (by decide), aJ_4]
        refine ex_st 1 (pc' := 146) (ls' := [(6, xi 3), (5, xi 10), (0, xr 104), (1, xi 0), (2, xi 0), (3, xi (x * 3)), (4, xi 2)]) (st' := [xi ((x * 3) + (↑n))]) rfl ?_
        refine ex_reti rfl rfl ?_
        refine ex_reti rfl rfl ?_
        refine ex_st 2 (pc' := 163) (ls' := [(6, xi 1), (5, xi 11), (0, xr 104), (1, xi 1), (2, xi 2), (3, xi x), (4, xi 0)]) (st' := [xi ((wC (aJ I 2 v (↑n)) [11, 30, 10]) 104 3), xi ((x * 3) + (↑n))]) rfl ?_
        rw [wC_f (by decide), aJ_3]
        refine ex_st 1 (pc' := 164) (ls' := [(6, xi 1), (5, xi 11), (0, xr 104), (1, xi 1), (2, xi 2), (3, xi x), (4, xi 0)]) (st' := [xi (((x * 3) + (↑n)) - v)]) rfl ?_
        refine ex_reti rfl rfl ?_
        refine ex_reti rfl rfl ?_
        exact ⟨rfl, rfl⟩
      · exfalso; omega
    · exfalso; omega
  · exfalso; omega
set_option maxRecDepth 8000 in
set_option maxHeartbeats 2000000 in
theorem ct_A_begin_2_2 {sc : List Int} {I : Nat → Nat → Int} {L : Nat → Nat → Int64} {n : Nat} {x v : Int} (hn : n < 6) (hq : I (11 + 3 * n) 0 = 2) (hv : I (11 + 3 * n) 1 = v) : x_CE sc 20 xN_A_begin [xr 104, xi 2, xi (↑n), xr (11 + 3 * n), xi x] (xSH, I, L) (some (xi ((((x * 3) + (↑n)) - v) * 2))) (xSH, wC (aJ I 2 v (↑n)) [12, 11, 30, 10], L) := by
  refine x_CE.of (M := xM_A_begin) rfl (Nat.le_of_ble_eq_true rfl) ?_
  refine ex_st 2 (pc' := 2) (ls' := [(0, xr 104), (1, xi 2), (2, xi (↑n)), (3, xr (11 + 3 * n)), (4, xi x)]) (st' := [xr (11 + 3 * n), xr 104]) rfl ?_
  refine ex_gfi rfl (by omega) (x_so1 n (by omega)).1 (by decide) (by decide) rfl ?_
  rw [hq]
  refine ex_pfi rfl (by decide) (rfl : xSH[104]? = some _) (by decide) rfl (by decide) (fun h => by cases h) ?_
  refine ex_st 2 (pc' := 10) (ls' := [(0, xr 104), (1, xi 2), (2, xi (↑n)), (3, xr (11 + 3 * n)), (4, xi x)]) (st' := [xr (11 + 3 * n), xr 104]) rfl ?_
  refine ex_gfi rfl (by omega) (x_so1 n (by omega)).1 (by decide) (by decide) rfl ?_
  rw [x_up_far (k := 11 + 3 * n) (j := 1) (k0 := 104) (j0 := 2) (by first | decide | omega), hv]
  refine ex_pfi rfl (by decide) (rfl : xSH[104]? = some _) (by decide) rfl (by decide) (fun h => by cases h) ?_
  refine ex_st 2 (pc' := 18) (ls' := [(0, xr 104), (1, xi 2), (2, xi (↑n)), (3, xr (11 + 3 * n)), (4, xi x)]) (st' := [xi (↑n), xr 104]) rfl ?_
  refine ex_pfi rfl (by decide) (rfl : xSH[104]? = some _) (by decide) rfl (by decide) (fun h => by cases h) ?_
  refine ex_st 2 (pc' := 23) (ls' := [(0, xr 104), (1, xi 2), (2, xi (↑n)), (3, xr (11 + 3 * n)), (4, xi x)]) (st' := [xi 0, xr 104]) rfl ?_
  refine ex_pfi rfl (by decide) (rfl : xSH[104]? = some _) (by decide) rfl (by decide) (fun h => by cases h) ?_
  rw [wC_beg]
  refine ex_st 4 (pc' := 32) (ls' := [(0, xr 104), (1, xi 2), (2, xi (↑n)), (3, xr (11 + 3 * n)), (4, xi x)]) (st' := [xi ((wC (aJ I 2 v (↑n)) []) 104 2), xi 2, xr 104]) rfl ?_
  rw [wC_f (by decide), aJ_2]
  refine ex_st 2 (pc' := 35) (ls' := [(0, xr 104), (1, xi 2), (2, xi (↑n)), (3, xr (11 + 3 * n)), (4, xi x)]) (st' := [xi 0, xi x, xi 2, xi 2, xr 104]) rfl ?_
  refine ex_inl (M' := xM_A_run) (as := [xr 104, xi 2, xi 2, xi x, xi 0]) (rest := []) (D' := 18) rfl (Nat.le_of_ble_eq_true rfl) (by decide) rfl ⟨rfl, rfl, rfl⟩ ⟨Nat.le_of_ble_eq_true rfl, rfl, rfl⟩ (Nat.le_of_ble_eq_true rfl) rfl ?_
  refine ex_st 2 (pc' := 4) (ls' := [(0, xr 104), (1, xi 2), (2, xi 2), (3, xi x), (4, xi 0)]) (st' := [xi 20, xi 0]) rfl ?_
  refine ex_st 1 (pc' := 7) (ls' := [(0, xr 104), (1, xi 2), (2, xi 2), (3, xi x), (4, xi 0)]) (st' := []) rfl ?_
  refine ex_st 1 (pc' := 8) (ls' := [(0, xr 104), (1, xi 2), (2, xi 2), (3, xi x), (4, xi 0)]) (st' := [xi 2]) rfl ?_
  refine ex_call (ct_G_isKind (by decide)) (by decide) rfl ⟨rfl, rfl, rfl⟩ ⟨Nat.le_of_ble_eq_true rfl, rfl, rfl⟩ (Nat.le_of_ble_eq_true rfl) rfl ?_
  refine ex_bne rfl (fun h0 => ?_) (fun h0 => ?_)
  · refine ex_st 6 (pc' := 24) (ls' := [(0, xr 104), (1, xi 2), (2, xi 2), (3, xi x), (4, xi 0)]) (st' := [xi 8, xr 1003]) rfl ?_
    refine ex_cald (v := 12) (j := 8) rfl (by decide) rfl (by decide) (by decide) (by decide) (rfl) ?_
    refine ex_st 3 (pc' := 30) (ls' := [(5, xi 12), (0, xr 104), (1, xi 2), (2, xi 2), (3, xi x), (4, xi 0)]) (st' := [xi 12, xr 104]) rfl ?_
    refine ex_call (ct_A_note2 (b := 12) (by decide)) (by decide) rfl ⟨rfl, rfl, rfl⟩ ⟨Nat.le_of_ble_eq_true rfl, rfl, rfl⟩ (Nat.le_of_ble_eq_true rfl) rfl ?_
    refine ex_st 5 (pc' := 41) (ls' := [(6, xi 1), (5, xi 12), (0, xr 104), (1, xi 2), (2, xi 2), (3, xi x), (4, xi 0)]) (st' := [xi 12]) rfl ?_
    refine ex_st 1 (pc' := 165) (ls' := [(6, xi 1), (5, xi 12), (0, xr 104), (1, xi 2), (2, xi 2), (3, xi x), (4, xi 0)]) (st' := []) rfl ?_
    refine ex_st 4 (pc' := 171) (ls' := [(6, xi 1), (5, xi 12), (0, xr 104), (1, xi 2), (2, xi 2), (3, xi x), (4, xi 0)]) (st' := [xi ((wC (aJ I 2 v (↑n)) [12]) 104 2), xi 1, xr 104]) rfl ?_
    rw [wC_f (by decide), aJ_2]
    refine ex_st 2 (pc' := 174) (ls' := [(6, xi 1), (5, xi 12), (0, xr 104), (1, xi 2), (2, xi 2), (3, xi x), (4, xi 0)]) (st' := [xi 1, xi x, xi 2, xi 1, xr 104]) rfl ?_
    refine ex_inl (M' := xM_A_run) (as := [xr 104, xi 1, xi 2, xi x, xi 1]) (rest := []) (D' := 17) rfl (Nat.le_of_ble_eq_true rfl) (by decide) rfl ⟨rfl, rfl, rfl⟩ ⟨Nat.le_of_ble_eq_true rfl, rfl, rfl⟩ (Nat.le_of_ble_eq_true rfl) rfl ?_
    refine ex_st 2 (pc' := 4) (ls' := [(0, xr 104), (1, xi 1), (2, xi 2), (3, xi x), (4, xi 1)]) (st' := [xi 20, xi 1]) rfl ?_
    refine ex_st 1 (pc' := 7) (ls' := [(0, xr 104), (1, xi 1), (2, xi 2), (3, xi x), (4, xi 1)]) (st' := []) rfl ?_
    refine ex_st 1 (pc' := 8) (ls' := [(0, xr 104), (1, xi 1), (2, xi 2), (3, xi x), (4, xi 1)]) (st' := [xi 2]) rfl ?_
    refine ex_call (ct_G_isKind (by decide)) (by decide) rfl ⟨rfl, rfl, rfl⟩ ⟨Nat.le_of_ble_eq_true rfl, rfl, rfl⟩ (Nat.le_of_ble_eq_true rfl) rfl ?_
    refine ex_bne rfl (fun h1 => ?_) (fun h1 => ?_)
    · refine ex_st 6 (pc' := 24) (ls' := [(0, xr 104), (1, xi 1), (2, xi 2), (3, xi x), (4, xi 1)]) (st' := [xi 7, xr 1003]) rfl ?_
      refine ex_cald (v := 11) (j := 7) rfl (by decide) rfl (by decide) (by decide) (by decide) (rfl) ?_
      refine ex_st 3 (pc' := 30) (ls' := [(5, xi 11), (0, xr 104), (1, xi 1), (2, xi 2), (3, xi x), (4, xi 1)]) (st' := [xi 11, xr 104]) rfl ?_
      refine ex_call (ct_A_note2 (b := 11) (by decide)) (by decide) rfl ⟨rfl, rfl, rfl⟩ ⟨Nat.le_of_ble_eq_true rfl, rfl, rfl⟩ (Nat.le_of_ble_eq_true rfl) rfl ?_
      refine ex_st 5 (pc' := 41) (ls' := [(6, xi 2), (5, xi 11), (0, xr 104), (1, xi 1), (2, xi 2), (3, xi x), (4, xi 1)]) (st' := [xi 11]) rfl ?_
      refine ex_st 1 (pc' := 147) (ls' := [(6, xi 2), (5, xi 11), (0, xr 104), (1, xi 1), (2, xi 2), (3, xi x), (4, xi 1)]) (st' := []) rfl ?_
      refine ex_st 4 (pc' := 153) (ls' := [(6, xi 2), (5, xi 11), (0, xr 104), (1, xi 1), (2, xi 2), (3, xi x), (4, xi 1)]) (st' := [xi ((wC (aJ I 2 v (↑n)) [12, 11]) 104 2), xi 0, xr 104]) rfl ?_
      rw [wC_f (by decide), aJ_2]
      refine ex_st 2 (pc' := 156) (ls' := [(6, xi 2), (5, xi 11), (0, xr 104), (1, xi 1), (2, xi 2), (3, xi x), (4, xi 1)]) (st' := [xi 2, xi x, xi 2, xi 0, xr 104]) rfl ?_
      refine ex_inl (M' := xM_A_run) (as := [xr 104, xi 0, xi 2, xi x, xi 2]) (rest := []) (D' := 16) rfl (Nat.le_of_ble_eq_true rfl) (by decide) rfl ⟨rfl, rfl, rfl⟩ ⟨Nat.le_of_ble_eq_true rfl, rfl, rfl⟩ (Nat.le_of_ble_eq_true rfl) rfl ?_
      refine ex_st 2 (pc' := 4) (ls' := [(0, xr 104), (1, xi 0), (2, xi 2), (3, xi x), (4, xi 2)]) (st' := [xi 20, xi 2]) rfl ?_
      refine ex_st 1 (pc' := 7) (ls' := [(0, xr 104), (1, xi 0), (2, xi 2), (3, xi x), (4, xi 2)]) (st' := []) rfl ?_
      refine ex_st 1 (pc' := 8) (ls' := [(0, xr 104), (1, xi 0), (2, xi 2), (3, xi x), (4, xi 2)]) (st' := [xi 2]) rfl ?_
      refine ex_call (ct_G_isKind (by decide)) (by decide) rfl ⟨rfl, rfl, rfl⟩ ⟨Nat.le_of_ble_eq_true rfl, rfl, rfl⟩ (Nat.le_of_ble_eq_true rfl) rfl ?_
      refine ex_bne rfl (fun h2 => ?_) (fun h2 => ?_)
      · refine ex_st 6 (pc' := 24) (ls' := [(0, xr 104), (1, xi 0), (2, xi 2), (3, xi x), (4, xi 2)]) (st' := [xi 6, xr 1003]) rfl ?_
        refine ex_cald (v := 30) (j := 6) rfl (by decide) rfl (by decide) (by decide) (by decide) (rfl) ?_
        refine ex_st 3 (pc' := 30) (ls' := [(5, xi 30), (0, xr 104), (1, xi 0), (2, xi 2), (3, xi x), (4, xi 2)]) (st' := [xi 30, xr 104]) rfl ?_
        refine ex_call (ct_A_note2 (b := 30) (by decide)) (by decide) rfl ⟨rfl, rfl, rfl⟩ ⟨Nat.le_of_ble_eq_true rfl, rfl, rfl⟩ (Nat.le_of_ble_eq_true rfl) rfl ?_
        refine ex_st 5 (pc' := 41) (ls' := [(6, xi 3), (5, xi 30), (0, xr 104), (1, xi 0), (2, xi 2), (3, xi x), (4, xi 2)]) (st' := [xi 30]) rfl ?_
        refine ex_st 1 (pc' := 193) (ls' := [(6, xi 3), (5, xi 30), (0, xr 104), (1, xi 0), (2, xi 2), (3, xi x), (4, xi 2)]) (st' := []) rfl ?_
        refine ex_st 7 (pc' := 201) (ls' := [(6, xi 3), (5, xi 30), (0, xr 104), (1, xi 0), (2, xi 2), (3, xi x), (4, xi 2)]) (st' := [xi 3, xi (x * 3), xi 0, xi 0, xr 104]) rfl ?_
        refine ex_inl (M' := xM_A_run) (as := [xr 104, xi 0, xi 0, xi (x * 3), xi 3]) (rest := []) (D' := 15) rfl (Nat.le_of_ble_eq_true rfl) (by decide) rfl ⟨rfl, rfl, rfl⟩ ⟨Nat.le_of_ble_eq_true rfl, rfl, rfl⟩ (Nat.le_of_ble_eq_true rfl) rfl ?_
        refine ex_st 2 (pc' := 4) (ls' := [(0, xr 104), (1, xi 0), (2, xi 0), (3, xi (x * 3)), (4, xi 3)]) (st' := [xi 20, xi 3]) rfl ?_
        refine ex_st 1 (pc' := 7) (ls' := [(0, xr 104), (1, xi 0), (2, xi 0), (3, xi (x * 3)), (4, xi 3)]) (st' := []) rfl ?_
        refine ex_st 1 (pc' := 8) (ls' := [(0, xr 104), (1, xi 0), (2, xi 0), (3, xi (x * 3)), (4, xi 3)]) (st' := [xi 0]) rfl ?_
        refine ex_call (ct_G_isKind (by decide)) (by decide) rfl ⟨rfl, rfl, rfl⟩ ⟨Nat.le_of_ble_eq_true rfl, rfl, rfl⟩ (Nat.le_of_ble_eq_true rfl) rfl ?_
        refine ex_bne rfl (fun h3 => ?_) (fun h3 => ?_)
        · refine ex_st 6 (pc' := 24) (ls' := [(0, xr 104), (1, xi 0), (2, xi 0), (3, xi (x * 3)), (4, xi 3)]) (st' := [xi 0, xr 1003]) rfl ?_
          refine ex_cald (v := 10) (j := 0) rfl (by decide) rfl (by decide) (by decide) (by decide) (rfl) ?_
          refine ex_st 3 (pc' := 30) (ls' := [(5, xi 10), (0, xr 104), (1, xi 0), (2, xi 0), (3, xi (x * 3)), (4, xi 3)]) (st' := [xi 10, xr 104]) rfl ?_
          refine ex_call (ct_A_note2 (b := 10) (by decide)) (by decide) rfl ⟨rfl, rfl, rfl⟩ ⟨Nat.le_of_ble_eq_true rfl, rfl, rfl⟩ (Nat.le_of_ble_eq_true rfl) rfl ?_
          refine ex_st 5 (pc' := 41) (ls' := [(6, xi 4), (5, xi 10), (0, xr 104), (1, xi 0), (2, xi 0), (3, xi (x * 3)), (4, xi 3)]) (st' := [xi 10]) rfl ?_
          refine ex_st 1 (pc' := 140) (ls' := [(6, xi 4), (5, xi 10), (0, xr 104), (1, xi 0), (2, xi 0), (3, xi (x * 3)), (4, xi 3)]) (st' := []) rfl ?_
          refine ex_st 3 (pc' := 145) (ls' := [(6, xi 4), (5, xi 10), (0, xr 104), (1, xi 0), (2, xi 0), (3, xi (x * 3)), (4, xi 3)]) (st' := [xi ((wC (aJ I 2 v (↑n)) [12, 11, 30, 10]) 104 4), xi (x * 3)]) rfl ?_
          rw [wC_f (by decide), aJ_4]
          refine ex_st 1 (pc' := 146) (ls' := [(6, xi 4), (5, xi 10), (0, xr 104), (1, xi 0), (2, xi 0), (3, xi (x * 3)), (4, xi 3)]) (st' := [xi ((x * 3) + (↑n))]) rfl ?_
          refine ex_reti rfl rfl ?_
          refine ex_reti rfl rfl ?_
          refine ex_st 2 (pc' := 163) (ls' := [(6, xi 2), (5, xi 11), (0, xr 104), (1, xi 1), (2, xi 2), (3, xi x), (4, xi 1)]) (st' := [xi ((wC (aJ I 2 v (↑n)) [12, 11, 30, 10]) 104 3), xi ((x * 3) + (↑n))]) rfl ?_
          rw [wC_f (by decide), aJ_3]
          refine ex_st 1 (pc' := 164) (ls' := [(6, xi 2), (5, xi 11), (0, xr 104), (1, xi 1), (2, xi 2), (3, xi x), (4, xi 1)]) (st' := [xi (((x * 3) + (↑n)) - v)]) rfl ?_
          refine ex_reti rfl rfl ?_
          refine ex_st 2 (pc' := 179) (ls' := [(6, xi 1), (5, xi 12), (0, xr 104), (1, xi 2), (2, xi 2), (3, xi x), (4, xi 0)]) (st' := [xi ((((x * 3) + (↑n)) - v) * 2)]) rfl ?_
          refine ex_reti rfl rfl ?_
          refine ex_reti rfl rfl ?_
          exact ⟨rfl, rfl⟩
        · exfalso; omega
      · exfalso; omega
    · exfalso; omega
  · exfalso; omega
set_option maxRecDepth 8000 in
set_option maxHeartbeats 2000000 in
theorem ct_A_begin_3_0 {sc : List Int} {I : Nat → Nat → Int} {L : Nat → Nat → Int64} {n : Nat} {x v : Int} (hn : n < 6) (hq : I (11 + 3 * n) 0 = 3) (hv : I (11 + 3 * n) 1 = v) : x_CE sc 20 xN_A_begin [xr 104, xi 0, xi (↑n), xr (11 + 3 * n), xi x] (xSH, I, L) (some (xi (x + (↑n)))) (xSH, wC (aJ I 3 v (↑n)) [10], L) := by
  refine x_CE.of (M := xM_A_begin) rfl (Nat.le_of_ble_eq_true rfl) ?_
  refine ex_st 2 (pc' := 2) (ls' := [(0, xr 104), (1, xi 0), (2, xi (↑n)), (3, xr (11 + 3 * n)), (4, xi x)]) (st' := [xr (11 + 3 * n), xr 104]) rfl ?_
  refine ex_gfi rfl (by omega) (x_so1 n (by omega)).1 (by decide) (by decide) rfl ?_
  rw [hq]
  refine ex_pfi rfl (by decide) (rfl : xSH[104]? = some _) (by decide) rfl (by decide) (fun h => by cases h) ?_
  refine ex_st 2 (pc' := 10) (ls' := [(0, xr 104), (1, xi 0), (2, xi (↑n)), (3, xr (11 + 3 * n)), (4, xi x)]) (st' := [xr (11 + 3 * n), xr 104]) rfl ?_
  refine ex_gfi rfl (by omega) (x_so1 n (by omega)).1 (by decide) (by decide) rfl ?_
  rw [x_up_far (k := 11 + 3 * n) (j := 1) (k0 := 104) (j0 := 2) (by first | decide | omega), hv]
  refine ex_pfi rfl (by decide) (rfl : xSH[104]? = some _) (by decide) rfl (by decide) (fun h => by cases h) ?_
  refine ex_st 2 (pc' := 18) (ls' := [(0, xr 104), (1, xi 0), (2, xi (↑n)), (3, xr (11 + 3 * n)), (4, xi x)]) (st' := [xi (↑n), xr 104]) rfl ?_
  refine ex_pfi rfl (by decide) (rfl : xSH[104]? = some _) (by decide) rfl (by decide) (fun h => by cases h) ?_
  refine ex_st 2 (pc' := 23) (ls' := [(0, xr 104), (1, xi 0), (2, xi (↑n)), (3, xr (11 + 3 * n)), (4, xi x)]) (st' := [xi 0, xr 104]) rfl ?_
  refine ex_pfi rfl (by decide) (rfl : xSH[104]? = some _) (by decide) rfl (by decide) (fun h => by cases h) ?_
  rw [wC_beg]
  refine ex_st 4 (pc' := 32) (ls' := [(0, xr 104), (1, xi 0), (2, xi (↑n)), (3, xr (11 + 3 * n)), (4, xi x)]) (st' := [xi ((wC (aJ I 3 v (↑n)) []) 104 2), xi 0, xr 104]) rfl ?_
  rw [wC_f (by decide), aJ_2]
  refine ex_st 2 (pc' := 35) (ls' := [(0, xr 104), (1, xi 0), (2, xi (↑n)), (3, xr (11 + 3 * n)), (4, xi x)]) (st' := [xi 0, xi x, xi 3, xi 0, xr 104]) rfl ?_
  refine ex_inl (M' := xM_A_run) (as := [xr 104, xi 0, xi 3, xi x, xi 0]) (rest := []) (D' := 18) rfl (Nat.le_of_ble_eq_true rfl) (by decide) rfl ⟨rfl, rfl, rfl⟩ ⟨Nat.le_of_ble_eq_true rfl, rfl, rfl⟩ (Nat.le_of_ble_eq_true rfl) rfl ?_
  refine ex_st 2 (pc' := 4) (ls' := [(0, xr 104), (1, xi 0), (2, xi 3), (3, xi x), (4, xi 0)]) (st' := [xi 20, xi 0]) rfl ?_
  refine ex_st 1 (pc' := 7) (ls' := [(0, xr 104), (1, xi 0), (2, xi 3), (3, xi x), (4, xi 0)]) (st' := []) rfl ?_
  refine ex_st 1 (pc' := 8) (ls' := [(0, xr 104), (1, xi 0), (2, xi 3), (3, xi x), (4, xi 0)]) (st' := [xi 3]) rfl ?_
  refine ex_call (ct_G_isKind (by decide)) (by decide) rfl ⟨rfl, rfl, rfl⟩ ⟨Nat.le_of_ble_eq_true rfl, rfl, rfl⟩ (Nat.le_of_ble_eq_true rfl) rfl ?_
  refine ex_bne rfl (fun h0 => ?_) (fun h0 => ?_)
  · refine ex_st 6 (pc' := 24) (ls' := [(0, xr 104), (1, xi 0), (2, xi 3), (3, xi x), (4, xi 0)]) (st' := [xi 9, xr 1003]) rfl ?_
    refine ex_cald (v := 10) (j := 9) rfl (by decide) rfl (by decide) (by decide) (by decide) (rfl) ?_
    refine ex_st 3 (pc' := 30) (ls' := [(5, xi 10), (0, xr 104), (1, xi 0), (2, xi 3), (3, xi x), (4, xi 0)]) (st' := [xi 10, xr 104]) rfl ?_
    refine ex_call (ct_A_note2 (b := 10) (by decide)) (by decide) rfl ⟨rfl, rfl, rfl⟩ ⟨Nat.le_of_ble_eq_true rfl, rfl, rfl⟩ (Nat.le_of_ble_eq_true rfl) rfl ?_
    refine ex_st 5 (pc' := 41) (ls' := [(6, xi 1), (5, xi 10), (0, xr 104), (1, xi 0), (2, xi 3), (3, xi x), (4, xi 0)]) (st' := [xi 10]) rfl ?_
    refine ex_st 1 (pc' := 140) (ls' := [(6, xi 1), (5, xi 10), (0, xr 104), (1, xi 0), (2, xi 3), (3, xi x), (4, xi 0)]) (st' := []) rfl ?_
    refine ex_st 3 (pc' := 145) (ls' := [(6, xi 1), (5, xi 10), (0, xr 104), (1, xi 0), (2, xi 3), (3, xi x), (4, xi 0)]) (st' := [xi ((wC (aJ I 3 v (↑n)) [10]) 104 4), xi x]) rfl ?_
    rw [wC_f (by decide), aJ_4]
    refine ex_st 1 (pc' := 146) (ls' := [(6, xi 1), (5, xi 10), (0, xr 104), (1, xi 0), (2, xi 3), (3, xi x), (4, xi 0)]) (st' := [xi (x + (↑n))]) rfl ?_
    refine ex_reti rfl rfl ?_
    refine ex_reti rfl rfl ?_
    exact ⟨rfl, rfl⟩
  · exfalso; omega
set_option maxRecDepth 8000 in
set_option maxHeartbeats 2000000 in
theorem ct_A_begin_3_1 {sc : List Int} {I : Nat → Nat → Int} {L : Nat → Nat → Int64} {n : Nat} {x v : Int} (hn : n < 6) (hq : I (11 + 3 * n) 0 = 3) (hv : I (11 + 3 * n) 1 = v) : x_CE sc 20 xN_A_begin [xr 104, xi 1, xi (↑n), xr (11 + 3 * n), xi x] (xSH, I, L) (some (xi ((x + (↑n)) - v))) (xSH, wC (aJ I 3 v (↑n)) [11, 10], L) := by
  refine x_CE.of (M := xM_A_begin) rfl (Nat.le_of_ble_eq_true rfl) ?_
  refine ex_st 2 (pc' := 2) (ls' := [(0, xr 104), (1, xi 1), (2, xi (↑n)), (3, xr (11 + 3 * n)), (4, xi x)]) (st' := [xr (11 + 3 * n), xr 104]) rfl ?_
  refine ex_gfi rfl (by omega) (x_so1 n (by omega)).1 (by decide) (by decide) rfl ?_
  rw [hq]
  refine ex_pfi rfl (by decide) (rfl : xSH[104]? = some _) (by decide) rfl (by decide) (fun h => by cases h) ?_
  refine ex_st 2 (pc' := 10) (ls' := [(0, xr 104), (1, xi 1), (2, xi (↑n)), (3, xr (11 + 3 * n)), (4, xi x)]) (st' := [xr (11 + 3 * n), xr 104]) rfl ?_
  refine ex_gfi rfl (by omega) (x_so1 n (by omega)).1 (by decide) (by decide) rfl ?_
  rw [x_up_far (k := 11 + 3 * n) (j := 1) (k0 := 104) (j0 := 2) (by first | decide | omega), hv]
  refine ex_pfi rfl (by decide) (rfl : xSH[104]? = some _) (by decide) rfl (by decide) (fun h => by cases h) ?_
  refine ex_st 2 (pc' := 18) (ls' := [(0, xr 104), (1, xi 1), (2, xi (↑n)), (3, xr (11 + 3 * n)), (4, xi x)]) (st' := [xi (↑n), xr 104]) rfl ?_
  refine ex_pfi rfl (by decide) (rfl : xSH[104]? = some _) (by decide) rfl (by decide) (fun h => by cases h) ?_
  refine ex_st 2 (pc' := 23) (ls' := [(0, xr 104), (1, xi 1), (2, xi (↑n)), (3, xr (11 + 3 * n)), (4, xi x)]) (st' := [xi 0, xr 104]) rfl ?_
  refine ex_pfi rfl (by decide) (rfl : xSH[104]? = some _) (by decide) rfl (by decide) (fun h => by cases h) ?_
  rw [wC_beg]
  refine ex_st 4 (pc' := 32) (ls' := [(0, xr 104), (1, xi 1), (2, xi (↑n)), (3, xr (11 + 3 * n)), (4, xi x)]) (st' := [xi ((wC (aJ I 3 v (↑n)) []) 104 2), xi 1, xr 104]) rfl ?_
  rw [wC_f (by decide), aJ_2]
  refine ex_st 2 (pc' := 35) (ls' := [(0, xr 104), (1, xi 1), (2, xi (↑n)), (3, xr (11 + 3 * n)), (4, xi x)]) (st' := [xi 0, xi x, xi 3, xi 1, xr 104]) rfl ?_
  refine ex_inl (M' := xM_A_run) (as := [xr 104, xi 1, xi 3, xi x, xi 0]) (rest := []) (D' := 18) rfl (Nat.le_of_ble_eq_true rfl) (by decide) rfl ⟨rfl, rfl, rfl⟩ ⟨Nat.le_of_ble_eq_true rfl, rfl, rfl⟩ (Nat.le_of_ble_eq_true rfl) rfl ?_
  refine ex_st 2 (pc' := 4) (ls' := [(0, xr 104), (1, xi 1), (2, xi 3), (3, xi x), (4, xi 0)]) (st' := [xi 20, xi 0]) rfl ?_
  refine ex_st 1 (pc' := 7) (ls' := [(0, xr 104), (1, xi 1), (2, xi 3), (3, xi x), (4, xi 0)]) (st' := []) rfl ?_
  refine ex_st 1 (pc' := 8) (ls' := [(0, xr 104), (1, xi 1), (2, xi 3), (3, xi x), (4, xi 0)]) (st' := [xi 3]) rfl ?_
  refine ex_call (ct_G_isKind (by decide)) (by decide) rfl ⟨rfl, rfl, rfl⟩ ⟨Nat.le_of_ble_eq_true rfl, rfl, rfl⟩ (Nat.le_of_ble_eq_true rfl) rfl ?_
  refine ex_bne rfl (fun h0 => ?_) (fun h0 => ?_)
  · refine ex_st 6 (pc' := 24) (ls' := [(0, xr 104), (1, xi 1), (2, xi 3), (3, xi x), (4, xi 0)]) (st' := [xi 10, xr 1003]) rfl ?_
    refine ex_cald (v := 11) (j := 10) rfl (by decide) rfl (by decide) (by decide) (by decide) (rfl) ?_
    refine ex_st 3 (pc' := 30) (ls' := [(5, xi 11), (0, xr 104), (1, xi 1), (2, xi 3), (3, xi x), (4, xi 0)]) (st' := [xi 11, xr 104]) rfl ?_
    refine ex_call (ct_A_note2 (b := 11) (by decide)) (by decide) rfl ⟨rfl, rfl, rfl⟩ ⟨Nat.le_of_ble_eq_true rfl, rfl, rfl⟩ (Nat.le_of_ble_eq_true rfl) rfl ?_
    refine ex_st 5 (pc' := 41) (ls' := [(6, xi 1), (5, xi 11), (0, xr 104), (1, xi 1), (2, xi 3), (3, xi x), (4, xi 0)]) (st' := [xi 11]) rfl ?_
    refine ex_st 1 (pc' := 147) (ls' := [(6, xi 1), (5, xi 11), (0, xr 104), (1, xi 1), (2, xi 3), (3, xi x), (4, xi 0)]) (st' := []) rfl ?_
    refine ex_st 4 (pc' := 153) (ls' := [(6, xi 1), (5, xi 11), (0, xr 104), (1, xi 1), (2, xi 3), (3, xi x), (4, xi 0)]) (st' := [xi ((wC (aJ I 3 v (↑n)) [11]) 104 2), xi 0, xr 104]) rfl ?_
    rw [wC_f (by decide), aJ_2]
    refine ex_st 2 (pc' := 156) (ls' := [(6, xi 1), (5, xi 11), (0, xr 104), (1, xi 1), (2, xi 3), (3, xi x), (4, xi 0)]) (st' := [xi 1, xi x, xi 3, xi 0, xr 104]) rfl ?_
    refine ex_inl (M' := xM_A_run) (as := [xr 104, xi 0, xi 3, xi x, xi 1]) (rest := []) (D' := 17) rfl (Nat.le_of_ble_eq_true rfl) (by decide) rfl ⟨rfl, rfl, rfl⟩ ⟨Nat.le_of_ble_eq_true rfl, rfl, rfl⟩ (Nat.le_of_ble_eq_true rfl) rfl ?_
    refine ex_st 2 (pc' := 4) (ls' := [(0, xr 104), (1, xi 0), (2, xi 3), (3, xi x), (4, xi 1)]) (st' := [xi 20, xi 1]) rfl ?_
    refine ex_st 1 (pc' := 7) (ls' := [(0, xr 104), (1, xi 0), (2, xi 3), (3, xi x), (4, xi 1)]) (st' := []) rfl ?_
    refine ex_st 1 (pc' := 8) (ls' := [(0, xr 104), (1, xi 0), (2, xi 3), (3, xi x), (4, xi 1)]) (st' := [xi 3]) rfl ?_
    refine ex_call (ct_G_isKind (by decide)) (by decide) rfl ⟨rfl, rfl, rfl⟩ ⟨Nat.le_of_ble_eq_true rfl, rfl, rfl⟩ (Nat.le_of_ble_eq_true rfl) rfl ?_
    refine ex_bne rfl (fun h1 => ?_) (fun h1 => ?_)
    · refine ex_st 6 (pc' := 24) (ls' := [(0, xr 104), (1, xi 0), (2, xi 3), (3, xi x), (4, xi 1)]) (st' := [xi 9, xr 1003]) rfl ?_
      refine ex_cald (v := 10) (j := 9) rfl (by decide) rfl (by decide) (by decide) (by decide) (rfl) ?_
      refine ex_st 3 (pc' := 30) (ls' := [(5, xi 10), (0, xr 104), (1, xi 0), (2, xi 3), (3, xi x), (4, xi 1)]) (st' := [xi 10, xr 104]) rfl ?_
      refine ex_call (ct_A_note2 (b := 10) (by decide)) (by decide) rfl ⟨rfl, rfl, rfl⟩ ⟨Nat.le_of_ble_eq_true rfl, rfl, rfl⟩ (Nat.le_of_ble_eq_true rfl) rfl ?_
      refine ex_st 5 (pc' := 41) (ls' := [(6, xi 2), (5, xi 10), (0, xr 104), (1, xi 0), (2, xi 3), (3, xi x), (4, xi 1)]) (st' := [xi 10]) rfl ?_
      refine ex_st 1 (pc' := 140) (ls' := [(6, xi 2), (5, xi 10), (0, xr 104), (1, xi 0), (2, xi 3), (3, xi x), (4, xi 1)]) (st' := []) rfl ?_
      refine ex_st 3 (pc' := 145) (ls' := [(6, xi 2), (5, xi 10), (0, xr 104), (1, xi 0), (2, xi 3), (3, xi x), (4, xi 1)]) (st' := [xi ((wC (aJ I 3 v (↑n)) [11, 10]) 104 4), xi x]) rfl ?_
      rw [wC_f (by decide), aJ_4]
      refine ex_st 1 (pc' := 146) (ls' := [(6, xi 2), (5, xi 10), (0, xr 104), (1, xi 0), (2, xi 3), (3, xi x), (4, xi 1)]) (st' := [xi (x + (↑n))]) rfl ?_
      refine ex_reti rfl rfl ?_
      refine ex_st 2 (pc' := 163) (ls' := [(6, xi 1), (5, xi 11), (0, xr 104), (1, xi 1), (2, xi 3), (3, xi x), (4, xi 0)]) (st' := [xi ((wC (aJ I 3 v (↑n)) [11, 10]) 104 3), xi (x + (↑n))]) rfl ?_
      rw [wC_f (by decide), aJ_3]
      refine ex_st 1 (pc' := 164) (ls' := [(6, xi 1), (5, xi 11), (0, xr 104), (1, xi 1), (2, xi 3), (3, xi x), (4, xi 0)]) (st' := [xi ((x + (↑n)) - v)]) rfl ?_
      refine ex_reti rfl rfl ?_
      refine ex_reti rfl rfl ?_
      exact ⟨rfl, rfl⟩
    · exfalso; omega
  · exfalso; omega
set_option maxRecDepth 8000 in
set_option maxHeartbeats 2000000 in
theorem ct_A_begin_3_2 {sc : List Int} {I : Nat → Nat → Int} {L : Nat → Nat → Int64} {n : Nat} {x v : Int} (hn : n < 6) (hq : I (11 + 3 * n) 0 = 3) (hv : I (11 + 3 * n) 1 = v) : x_CE sc 20 xN_A_begin [xr 104, xi 2, xi (↑n), xr (11 + 3 * n), xi x] (xSH, I, L) (some (xi ((((x + (↑n)) - v) * 2) + ((1 + (↑n)) - v)))) (xSH, wC (aJ I 3 v (↑n)) [40, 12, 11, 10, 11, 10], L) := by
  refine x_CE.of (M := xM_A_begin) rfl (Nat.le_of_ble_eq_true rfl) ?_
  refine ex_st 2 (pc' := 2) (ls' := [(0, xr 104), (1, xi 2), (2, xi (↑n)), (3, xr (11 + 3 * n)), (4, xi x)]) (st' := [xr (11 + 3 * n), xr 104]) rfl ?_
  refine ex_gfi rfl (by omega) (x_so1 n (by omega)).1 (by decide) (by decide) rfl ?_
  rw [hq]
  refine ex_pfi rfl (by decide) (rfl : xSH[104]? = some _) (by decide) rfl (by decide) (fun h => by cases h) ?_
  refine ex_st 2 (pc' := 10) (ls' := [(0, xr 104), (1, xi 2), (2, xi (↑n)), (3, xr (11 + 3 * n)), (4, xi x)]) (st' := [xr (11 + 3 * n), xr 104]) rfl ?_
  refine ex_gfi rfl (by omega) (x_so1 n (by omega)).1 (by decide) (by decide) rfl ?_
  rw [x_up_far (k := 11 + 3 * n) (j := 1) (k0 := 104) (j0 := 2) (by first | decide | omega), hv]
  refine ex_pfi rfl (by decide) (rfl : xSH[104]? = some _) (by decide) rfl (by decide) (fun h => by cases h) ?_
  refine ex_st 2 (pc' := 18) (ls' := [(0, xr 104), (1, xi 2), (2, xi (↑n)), (3, xr (11 + 3 * n)), (4, xi x)]) (st' := [xi (↑n), xr 104]) rfl ?_
  refine ex_pfi rfl (by decide) (rfl : xSH[104]? = some _) (by decide) rfl (by decide) (fun h => by cases h) ?_
  refine ex_st 2 (pc' := 23) (ls' := [(0, xr 104), (1, xi 2), (2, xi (↑n)), (3, xr (11 + 3 * n)), (4, xi x)]) (st' := [xi 0, xr 104]) rfl ?_
  refine ex_pfi rfl (by decide) (rfl : xSH[104]? = some _) (by decide) rfl (by decide) (fun h => by cases h) ?_
  rw [wC_beg]
  refine ex_st 4 (pc' := 32) (ls' := [(0, xr 104), (1, xi 2), (2, xi (↑n)), (3, xr (11 + 3 * n)), (4, xi x)]) (st' := [xi ((wC (aJ I 3 v (↑n)) []) 104 2), xi 2, xr 104]) rfl ?_
  rw [wC_f (by decide), aJ_2]
  refine ex_st 2 (pc' := 35) (ls' := [(0, xr 104), (1, xi 2), (2, xi (↑n)), (3, xr (11 + 3 * n)), (4, xi x)]) (st' := [xi 0, xi x, xi 3, xi 2, xr 104]) rfl ?_
  refine ex_inl (M' := xM_A_run) (as := [xr 104, xi 2, xi 3, xi x, xi 0]) (rest := []) (D' := 18) rfl (Nat.le_of_ble_eq_true rfl) (by decide) rfl ⟨rfl, rfl, rfl⟩ ⟨Nat.le_of_ble_eq_true rfl, rfl, rfl⟩ (Nat.le_of_ble_eq_true rfl) rfl ?_
  refine ex_st 2 (pc' := 4) (ls' := [(0, xr 104), (1, xi 2), (2, xi 3), (3, xi x), (4, xi 0)]) (st' := [xi 20, xi 0]) rfl ?_
  refine ex_st 1 (pc' := 7) (ls' := [(0, xr 104), (1, xi 2), (2, xi 3), (3, xi x), (4, xi 0)]) (st' := []) rfl ?_
  refine ex_st 1 (pc' := 8) (ls' := [(0, xr 104), (1, xi 2), (2, xi 3), (3, xi x), (4, xi 0)]) (st' := [xi 3]) rfl ?_
  refine ex_call (ct_G_isKind (by decide)) (by decide) rfl ⟨rfl, rfl, rfl⟩ ⟨Nat.le_of_ble_eq_true rfl, rfl, rfl⟩ (Nat.le_of_ble_eq_true rfl) rfl ?_
  refine ex_bne rfl (fun h0 => ?_) (fun h0 => ?_)
  · refine ex_st 6 (pc' := 24) (ls' := [(0, xr 104), (1, xi 2), (2, xi 3), (3, xi x), (4, xi 0)]) (st' := [xi 11, xr 1003]) rfl ?_
    refine ex_cald (v := 40) (j := 11) rfl (by decide) rfl (by decide) (by decide) (by decide) (rfl) ?_
    refine ex_st 3 (pc' := 30) (ls' := [(5, xi 40), (0, xr 104), (1, xi 2), (2, xi 3), (3, xi x), (4, xi 0)]) (st' := [xi 40, xr 104]) rfl ?_
    refine ex_call (ct_A_note2 (b := 40) (by decide)) (by decide) rfl ⟨rfl, rfl, rfl⟩ ⟨Nat.le_of_ble_eq_true rfl, rfl, rfl⟩ (Nat.le_of_ble_eq_true rfl) rfl ?_
    refine ex_st 5 (pc' := 41) (ls' := [(6, xi 1), (5, xi 40), (0, xr 104), (1, xi 2), (2, xi 3), (3, xi x), (4, xi 0)]) (st' := [xi 40]) rfl ?_
    refine ex_st 1 (pc' := 205) (ls' := [(6, xi 1), (5, xi 40), (0, xr 104), (1, xi 2), (2, xi 3), (3, xi x), (4, xi 0)]) (st' := []) rfl ?_
    refine ex_st 5 (pc' := 211) (ls' := [(6, xi 1), (5, xi 40), (0, xr 104), (1, xi 2), (2, xi 3), (3, xi x), (4, xi 0)]) (st' := [xi 1, xi x, xi 0, xi 2, xr 104]) rfl ?_
    refine ex_inl (M' := xM_A_run) (as := [xr 104, xi 2, xi 0, xi x, xi 1]) (rest := []) (D' := 17) rfl (Nat.le_of_ble_eq_true rfl) (by decide) rfl ⟨rfl, rfl, rfl⟩ ⟨Nat.le_of_ble_eq_true rfl, rfl, rfl⟩ (Nat.le_of_ble_eq_true rfl) rfl ?_
    refine ex_st 2 (pc' := 4) (ls' := [(0, xr 104), (1, xi 2), (2, xi 0), (3, xi x), (4, xi 1)]) (st' := [xi 20, xi 1]) rfl ?_
    refine ex_st 1 (pc' := 7) (ls' := [(0, xr 104), (1, xi 2), (2, xi 0), (3, xi x), (4, xi 1)]) (st' := []) rfl ?_
    refine ex_st 1 (pc' := 8) (ls' := [(0, xr 104), (1, xi 2), (2, xi 0), (3, xi x), (4, xi 1)]) (st' := [xi 0]) rfl ?_
    refine ex_call (ct_G_isKind (by decide)) (by decide) rfl ⟨rfl, rfl, rfl⟩ ⟨Nat.le_of_ble_eq_true rfl, rfl, rfl⟩ (Nat.le_of_ble_eq_true rfl) rfl ?_
    refine ex_bne rfl (fun h1 => ?_) (fun h1 => ?_)
    · refine ex_st 6 (pc' := 24) (ls' := [(0, xr 104), (1, xi 2), (2, xi 0), (3, xi x), (4, xi 1)]) (st' := [xi 2, xr 1003]) rfl ?_
      refine ex_cald (v := 12) (j := 2) rfl (by decide) rfl (by decide) (by decide) (by decide) (rfl) ?_
      refine ex_st 3 (pc' := 30) (ls' := [(5, xi 12), (0, xr 104), (1, xi 2), (2, xi 0), (3, xi x), (4, xi 1)]) (st' := [xi 12, xr 104]) rfl ?_
      refine ex_call (ct_A_note2 (b := 12) (by decide)) (by decide) rfl ⟨rfl, rfl, rfl⟩ ⟨Nat.le_of_ble_eq_true rfl, rfl, rfl⟩ (Nat.le_of_ble_eq_true rfl) rfl ?_
      refine ex_st 5 (pc' := 41) (ls' := [(6, xi 2), (5, xi 12), (0, xr 104), (1, xi 2), (2, xi 0), (3, xi x), (4, xi 1)]) (st' := [xi 12]) rfl ?_
      refine ex_st 1 (pc' := 165) (ls' := [(6, xi 2), (5, xi 12), (0, xr 104), (1, xi 2), (2, xi 0), (3, xi x), (4, xi 1)]) (st' := []) rfl ?_
      refine ex_st 4 (pc' := 171) (ls' := [(6, xi 2), (5, xi 12), (0, xr 104), (1, xi 2), (2, xi 0), (3, xi x), (4, xi 1)]) (st' := [xi ((wC (aJ I 3 v (↑n)) [40, 12]) 104 2), xi 1, xr 104]) rfl ?_
      rw [wC_f (by decide), aJ_2]
      refine ex_st 2 (pc' := 174) (ls' := [(6, xi 2), (5, xi 12), (0, xr 104), (1, xi 2), (2, xi 0), (3, xi x), (4, xi 1)]) (st' := [xi 2, xi x, xi 3, xi 1, xr 104]) rfl ?_
      refine ex_inl (M' := xM_A_run) (as := [xr 104, xi 1, xi 3, xi x, xi 2]) (rest := []) (D' := 16) rfl (Nat.le_of_ble_eq_true rfl) (by decide) rfl ⟨rfl, rfl, rfl⟩ ⟨Nat.le_of_ble_eq_true rfl, rfl, rfl⟩ (Nat.le_of_ble_eq_true rfl) rfl ?_
      refine ex_st 2 (pc' := 4) (ls' := [(0, xr 104), (1, xi 1), (2, xi 3), (3, xi x), (4, xi 2)]) (st' := [xi 20, xi 2]) rfl ?_
      refine ex_st 1 (pc' := 7) (ls' := [(0, xr 104), (1, xi 1), (2, xi 3), (3, xi x), (4, xi 2)]) (st' := []) rfl ?_
      refine ex_st 1 (pc' := 8) (ls' := [(0, xr 104), (1, xi 1), (2, xi 3), (3, xi x), (4, xi 2)]) (st' := [xi 3]) rfl ?_
      refine ex_call (ct_G_isKind (by decide)) (by decide) rfl ⟨rfl, rfl, rfl⟩ ⟨Nat.le_of_ble_eq_true rfl, rfl, rfl⟩ (Nat.le_of_ble_eq_true rfl) rfl ?_
      refine ex_bne rfl (fun h2 => ?_) (fun h2 => ?_)
      · refine ex_st 6 (pc' := 24) (ls' := [(0, xr 104), (1, xi 1), (2, xi 3), (3, xi x), (4, xi 2)]) (st' := [xi 10, xr 1003]) rfl ?_
        refine ex_cald (v := 11) (j := 10) rfl (by decide) rfl (by decide) (by decide) (by decide) (rfl) ?_
        refine ex_st 3 (pc' := 30) (ls' := [(5, xi 11), (0, xr 104), (1, xi 1), (2, xi 3), (3, xi x), (4, xi 2)]) (st' := [xi 11, xr 104]) rfl ?_
        refine ex_call (ct_A_note2 (b := 11) (by decide)) (by decide) rfl ⟨rfl, rfl, rfl⟩ ⟨Nat.le_of_ble_eq_true rfl, rfl, rfl⟩ (Nat.le_of_ble_eq_true rfl) rfl ?_
        refine ex_st 5 (pc' := 41) (ls' := [(6, xi 3), (5, xi 11), (0, xr 104), (1, xi 1), (2, xi 3), (3, xi x), (4, xi 2)]) (st' := [xi 11]) rfl ?_
        refine ex_st 1 (pc' := 147) (ls' := [(6, xi 3), (5, xi 11), (0, xr 104), (1, xi 1), (2, xi 3), (3, xi x), (4, xi 2)]) (st' := []) rfl ?_
        refine ex_st 4 (pc' := 153) (ls' := [(6, xi 3), (5, xi 11), (0, xr 104), (1, xi 1), (2, xi 3), (3, xi x), (4, xi 2)]) (st' := [xi ((wC (aJ I 3 v (↑n)) [40, 12, 11]) 104 2), xi 0, xr 104]) rfl ?_
        rw [wC_f (by decide), aJ_2]
        refine ex_st 2 (pc' := 156) (ls' := [(6, xi 3), (5, xi 11), (0, xr 104), (1, xi 1), (2, xi 3), (3, xi x), (4, xi 2)]) (st' := [xi 3, xi x, xi 3, xi 0, xr 104]) rfl ?_
        refine ex_inl (M' := xM_A_run) (as := [xr 104, xi 0, xi 3, xi x, xi 3]) (rest := []) (D' := 15) rfl (Nat.le_of_ble_eq_true rfl) (by decide) rfl ⟨rfl, rfl, rfl⟩ ⟨Nat.le_of_ble_eq_true rfl, rfl, rfl⟩ (Nat.le_of_ble_eq_true rfl) rfl ?_
        refine ex_st 2 (pc' := 4) (ls' := [(0, xr 104), (1, xi 0), (2, xi 3), (3, xi x), (4, xi 3)]) (st' := [xi 20, xi 3]) rfl ?_
        refine ex_st 1 (pc' := 7) (ls' := [(0, xr 104), (1, xi 0), (2, xi 3), (3, xi x), (4, xi 3)]) (st' := []) rfl ?_
        refine ex_st 1 (pc' := 8) (ls' := [(0, xr 104), (1, xi 0), (2, xi 3), (3, xi x), (4, xi 3)]) (st' := [xi 3]) rfl ?_
        refine ex_call (ct_G_isKind (by decide)) (by decide) rfl ⟨rfl, rfl, rfl⟩ ⟨Nat.le_of_ble_eq_true rfl, rfl, rfl⟩ (Nat.le_of_ble_eq_true rfl) rfl ?_
        refine ex_bne rfl (fun h3 => ?_) (fun h3 => ?_)
        · refine ex_st 6 (pc' := 24) (ls' := [(0, xr 104), (1, xi 0), (2, xi 3), (3, xi x), (4, xi 3)]) (st' := [xi 9, xr 1003]) rfl ?_
          refine ex_cald (v := 10) (j := 9) rfl (by decide) rfl (by decide) (by decide) (by decide) (rfl) ?_
          refine ex_st 3 (pc' := 30) (ls' := [(5, xi 10), (0, xr 104), (1, xi 0), (2, xi 3), (3, xi x), (4, xi 3)]) (st' := [xi 10, xr 104]) rfl ?_
          refine ex_call (ct_A_note2 (b := 10) (by decide)) (by decide) rfl ⟨rfl, rfl, rfl⟩ ⟨Nat.le_of_ble_eq_true rfl, rfl, rfl⟩ (Nat.le_of_ble_eq_true rfl) rfl ?_
          refine ex_st 5 (pc' := 41) (ls' := [(6, xi 4), (5, xi 10), (0, xr 104), (1, xi 0), (2, xi 3), (3, xi x), (4, xi 3)]) (st' := [xi 10]) rfl ?_
          refine ex_st 1 (pc' := 140) (ls' := [(6, xi 4), (5, xi 10), (0, xr 104), (1, xi 0), (2, xi 3), (3, xi x), (4, xi 3)]) (st' := []) rfl ?_
          refine ex_st 3 (pc' := 145) (ls' := [(6, xi 4), (5, xi 10), (0, xr 104), (1, xi 0), (2, xi 3), (3, xi x), (4, xi 3)]) (st' := [xi ((wC (aJ I 3 v (↑n)) [40, 12, 11, 10]) 104 4), xi x]) rfl ?_
          rw [wC_f (by decide), aJ_4]
          refine ex_st 1 (pc' := 146) (ls' := [(6, xi 4), (5, xi 10), (0, xr 104), (1, xi 0), (2, xi 3), (3, xi x), (4, xi 3)]) (st' := [xi (x + (↑n))]) rfl ?_
          refine ex_reti rfl rfl ?_
          refine ex_st 2 (pc' := 163) (ls' := [(6, xi 3), (5, xi 11), (0, xr 104), (1, xi 1), (2, xi 3), (3, xi x), (4, xi 2)]) (st' := [xi ((wC (aJ I 3 v (↑n)) [40, 12, 11, 10]) 104 3), xi (x + (↑n))]) rfl ?_
          rw [wC_f (by decide), aJ_3]
          refine ex_st 1 (pc' := 164) (ls' := [(6, xi 3), (5, xi 11), (0, xr 104), (1, xi 1), (2, xi 3), (3, xi x), (4, xi 2)]) (st' := [xi ((x + (↑n)) - v)]) rfl ?_
          refine ex_reti rfl rfl ?_
          refine ex_st 2 (pc' := 179) (ls' := [(6, xi 2), (5, xi 12), (0, xr 104), (1, xi 2), (2, xi 0), (3, xi x), (4, xi 1)]) (st' := [xi (((x + (↑n)) - v) * 2)]) rfl ?_
          refine ex_reti rfl rfl ?_
          refine ex_st 4 (pc' := 220) (ls' := [(6, xi 1), (5, xi 40), (0, xr 104), (1, xi 2), (2, xi 3), (3, xi x), (4, xi 0)]) (st' := [xi ((wC (aJ I 3 v (↑n)) [40, 12, 11, 10]) 104 2), xi 1, xr 104, xi (((x + (↑n)) - v) * 2)]) rfl ?_
          rw [wC_f (by decide), aJ_2]
          refine ex_st 2 (pc' := 223) (ls' := [(6, xi 1), (5, xi 40), (0, xr 104), (1, xi 2), (2, xi 3), (3, xi x), (4, xi 0)]) (st' := [xi 1, xi 1, xi 3, xi 1, xr 104, xi (((x + (↑n)) - v) * 2)]) rfl ?_
          refine ex_inl (M' := xM_A_run) (as := [xr 104, xi 1, xi 3, xi 1, xi 1]) (rest := [xi (((x + (↑n)) - v) * 2)]) (D' := 17) rfl (Nat.le_of_ble_eq_true rfl) (by decide) rfl ⟨rfl, rfl, rfl⟩ ⟨Nat.le_of_ble_eq_true rfl, rfl, rfl⟩ (Nat.le_of_ble_eq_true rfl) rfl ?_
          refine ex_st 2 (pc' := 4) (ls' := [(0, xr 104), (1, xi 1), (2, xi 3), (3, xi 1), (4, xi 1)]) (st' := [xi 20, xi 1]) rfl ?_
          refine ex_st 1 (pc' := 7) (ls' := [(0, xr 104), (1, xi 1), (2, xi 3), (3, xi 1), (4, xi 1)]) (st' := []) rfl ?_
          refine ex_st 1 (pc' := 8) (ls' := [(0, xr 104), (1, xi 1), (2, xi 3), (3, xi 1), (4, xi 1)]) (st' := [xi 3]) rfl ?_
          refine ex_call (ct_G_isKind (by decide)) (by decide) rfl ⟨rfl, rfl, rfl⟩ ⟨Nat.le_of_ble_eq_true rfl, rfl, rfl⟩ (Nat.le_of_ble_eq_true rfl) rfl ?_
          refine ex_bne rfl (fun h4 => ?_) (fun h4 => ?_)
          · refine ex_st 6 (pc' := 24) (ls' := [(0, xr 104), (1, xi 1), (2, xi 3), (3, xi 1), (4, xi 1)]) (st' := [xi 10, xr 1003]) rfl ?_
            refine ex_cald (v := 11) (j := 10) rfl (by decide) rfl (by decide) (by decide) (by decide) (rfl) ?_
            refine ex_st 3 (pc' := 30) (ls' := [(5, xi 11), (0, xr 104), (1, xi 1), (2, xi 3), (3, xi 1), (4, xi 1)]) (st' := [xi 11, xr 104]) rfl ?_
            refine ex_call (ct_A_note2 (b := 11) (by decide)) (by decide) rfl ⟨rfl, rfl, rfl⟩ ⟨Nat.le_of_ble_eq_true rfl, rfl, rfl⟩ (Nat.le_of_ble_eq_true rfl) rfl ?_
            refine ex_st 5 (pc' := 41) (ls' := [(6, xi 2), (5, xi 11), (0, xr 104), (1, xi 1), (2, xi 3), (3, xi 1), (4, xi 1)]) (st' := [xi 11]) rfl ?_
            refine ex_st 1 (pc' := 147) (ls' := [(6, xi 2), (5, xi 11), (0, xr 104), (1, xi 1), (2, xi 3), (3, xi 1), (4, xi 1)]) (st' := []) rfl ?_
            refine ex_st 4 (pc' := 153) (ls' := [(6, xi 2), (5, xi 11), (0, xr 104), (1, xi 1), (2, xi 3), (3, xi 1), (4, xi 1)]) (st' := [xi ((wC (aJ I 3 v (↑n)) [40, 12, 11, 10, 11]) 104 2), xi 0, xr 104]) rfl ?_
            rw [wC_f (by decide), aJ_2]
            refine ex_st 2 (pc' := 156) (ls' := [(6, xi 2), (5, xi 11), (0, xr 104), (1, xi 1), (2, xi 3), (3, xi 1), (4, xi 1)]) (st' := [xi 2, xi 1, xi 3, xi 0, xr 104]) rfl ?_
            refine ex_inl (M' := xM_A_run) (as := [xr 104, xi 0, xi 3, xi 1, xi 2]) (rest := []) (D' := 16) rfl (Nat.le_of_ble_eq_true rfl) (by decide) rfl ⟨rfl, rfl, rfl⟩ ⟨Nat.le_of_ble_eq_true rfl, rfl, rfl⟩ (Nat.le_of_ble_eq_true rfl) rfl ?_
            refine ex_st 2 (pc' := 4) (ls' := [(0, xr 104), (1, xi 0), (2, xi 3), (3, xi 1), (4, xi 2)]) (st' := [xi 20, xi 2]) rfl ?_
            refine ex_st 1 (pc' := 7) (ls' := [(0, xr 104), (1, xi 0), (2, xi 3), (3, xi 1), (4, xi 2)]) (st' := []) rfl ?_
            refine ex_st 1 (pc' := 8) (ls' := [(0, xr 104), (1, xi 0), (2, xi 3), (3, xi 1), (4, xi 2)]) (st' := [xi 3]) rfl ?_
            refine ex_call (ct_G_isKind (by decide)) (by decide) rfl ⟨rfl, rfl, rfl⟩ ⟨Nat.le_of_ble_eq_true rfl, rfl, rfl⟩ (Nat.le_of_ble_eq_true rfl) rfl ?_
            refine ex_bne rfl (fun h5 => ?_) (fun h5 => ?_)
            · refine ex_st 6 (pc' := 24) (ls' := [(0, xr 104), (1, xi 0), (2, xi 3), (3, xi 1), (4, xi 2)]) (st' := [xi 9, xr 1003]) rfl ?_
              refine ex_cald (v := 10) (j := 9) rfl (by decide) rfl (by decide) (by decide) (by decide) (rfl) ?_
              refine ex_st 3 (pc' := 30) (ls' := [(5, xi 10), (0, xr 104), (1, xi 0), (2, xi 3), (3, xi 1), (4, xi 2)]) (st' := [xi 10, xr 104]) rfl ?_
              refine ex_call (ct_A_note2 (b := 10) (by decide)) (by decide) rfl ⟨rfl, rfl, rfl⟩ ⟨Nat.le_of_ble_eq_true rfl, rfl, rfl⟩ (Nat.le_of_ble_eq_true rfl) rfl ?_
              refine ex_st 5 (pc' := 41) (ls' := [(6, xi 3), (5, xi 10), (0, xr 104), (1, xi 0), (2, xi 3), (3, xi 1), (4, xi 2)]) (st' := [xi 10]) rfl ?_
              refine ex_st 1 (pc' := 140) (ls' := [(6, xi 3), (5, xi 10), (0, xr 104), (1, xi 0), (2, xi 3), (3, xi 1), (4, xi 2)]) (st' := []) rfl ?_
              refine ex_st 3 (pc' := 145) (ls' := [(6, xi 3), (5, xi 10), (0, xr 104), (1, xi 0), (2, xi 3), (3, xi 1), (4, xi 2)]) (st' := [xi ((wC (aJ I 3 v (↑n)) [40, 12, 11, 10, 11, 10]) 104 4), xi 1]) rfl ?_
              rw [wC_f (by decide), aJ_4]
              refine ex_st 1 (pc' := 146) (ls' := [(6, xi 3), (5, xi 10), (0, xr 104), (1, xi 0), (2, xi 3), (3, xi 1), (4, xi 2)]) (st' := [xi (1 + (↑n))]) rfl ?_
              refine ex_reti rfl rfl ?_
              refine ex_st 2 (pc' := 163) (ls' := [(6, xi 2), (5, xi 11), (0, xr 104), (1, xi 1), (2, xi 3), (3, xi 1), (4, xi 1)]) (st' := [xi ((wC (aJ I 3 v (↑n)) [40, 12, 11, 10, 11, 10]) 104 3), xi (1 + (↑n))]) rfl ?_
              rw [wC_f (by decide), aJ_3]
              refine ex_st 1 (pc' := 164) (ls' := [(6, xi 2), (5, xi 11), (0, xr 104), (1, xi 1), (2, xi 3), (3, xi 1), (4, xi 1)]) (st' := [xi ((1 + (↑n)) - v)]) rfl ?_
              refine ex_reti rfl rfl ?_
              refine ex_st 1 (pc' := 227) (ls' := [(6, xi 1), (5, xi 40), (0, xr 104), (1, xi 2), (2, xi 3), (3, xi x), (4, xi 0)]) (st' := [xi ((((x + (↑n)) - v) * 2) + ((1 + (↑n)) - v))]) rfl ?_
              refine ex_reti rfl rfl ?_
              refine ex_reti rfl rfl ?_
              exact ⟨rfl, rfl⟩
            · exfalso; omega
          · exfalso; omega
        · exfalso; omega
      · exfalso; omega
    · exfalso; omega
  · exfalso; omega
set_option maxRecDepth 8000 in
set_option maxHeartbeats 2000000 in
theorem ct_A_begin_4_0 {sc : List Int} {I : Nat → Nat → Int} {L : Nat → Nat → Int64} {n : Nat} {x v : Int} (hn : n < 6) (hq : I (11 + 3 * n) 0 = 4) (hv : I (11 + 3 * n) 1 = v) : x_CE sc 20 xN_A_begin [xr 104, xi 0, xi (↑n), xr (11 + 3 * n), xi x] (xSH, I, L) (some (xi (-(x + (↑n))))) (xSH, wC (aJ I 4 v (↑n)) [50, 10], L) := by
  refine x_CE.of (M := xM_A_begin) rfl (Nat.le_of_ble_eq_true rfl) ?_
  refine ex_st 2 (pc' := 2) (ls' := [(0, xr 104), (1, xi 0), (2, xi (↑n)), (3, xr (11 + 3 * n)), (4, xi x)]) (st' := [xr (11 + 3 * n), xr 104]) rfl ?_
  refine ex_gfi rfl (by omega) (x_so1 n (by omega)).1 (by decide) (by decide) rfl ?_
  rw [hq]
  refine ex_pfi rfl (by decide) (rfl : xSH[104]? = some _) (by decide) rfl (by decide) (fun h => by cases h) ?_
  refine ex_st 2 (pc' := 10) (ls' := [(0, xr 104), (1, xi 0), (2, xi (↑n)), (3, xr (11 + 3 * n)), (4, xi x)]) (st' := [xr (11 + 3 * n), xr 104]) rfl ?_
  refine ex_gfi rfl (by omega) (x_so1 n (by omega)).1 (by decide) (by decide) rfl ?_
  rw [x_up_far (k := 11 + 3 * n) (j := 1) (k0 := 104) (j0 := 2) (by first | decide | omega), hv]
  refine ex_pfi rfl (by decide) (rfl : xSH[104]? = some _) (by decide) rfl (by decide) (fun h => by cases h) ?_
  refine ex_st 2 (pc' := 18) (ls' := [(0, xr 104), (1, xi 0), (2, xi (↑n)), (3, xr (11 + 3 * n)), (4, xi x)]) (st' := [xi (↑n), xr 104]) rfl ?_
  refine ex_pfi rfl (by decide) (rfl : xSH[104]? = some _) (by decide) rfl (by decide) (fun h => by cases h) ?_
  refine ex_st 2 (pc' := 23) (ls' := [(0, xr 104), (1, xi 0), (2, xi (↑n)), (3, xr (11 + 3 * n)), (4, xi x)]) (st' := [xi 0, xr 104]) rfl ?_
  refine ex_pfi rfl (by decide) (rfl : xSH[104]? = some _) (by decide) rfl (by decide) (fun h => by cases h) ?_
  rw [wC_beg]
  refine ex_st 4 (pc' := 32) (ls' := [(0, xr 104), (1, xi 0), (2, xi (↑n)), (3, xr (11 + 3 * n)), (4, xi x)]) (st' := [xi ((wC (aJ I 4 v (↑n)) []) 104 2), xi 0, xr 104]) rfl ?_
  rw [wC_f (by decide), aJ_2]
  refine ex_st 2 (pc' := 35) (ls' := [(0, xr 104), (1, xi 0), (2, xi (↑n)), (3, xr (11 + 3 * n)), (4, xi x)]) (st' := [xi 0, xi x, xi 4, xi 0, xr 104]) rfl ?_
  refine ex_inl (M' := xM_A_run) (as := [xr 104, xi 0, xi 4, xi x, xi 0]) (rest := []) (D' := 18) rfl (Nat.le_of_ble_eq_true rfl) (by decide) rfl ⟨rfl, rfl, rfl⟩ ⟨Nat.le_of_ble_eq_true rfl, rfl, rfl⟩ (Nat.le_of_ble_eq_true rfl) rfl ?_
  refine ex_st 2 (pc' := 4) (ls' := [(0, xr 104), (1, xi 0), (2, xi 4), (3, xi x), (4, xi 0)]) (st' := [xi 20, xi 0]) rfl ?_
  refine ex_st 1 (pc' := 7) (ls' := [(0, xr 104), (1, xi 0), (2, xi 4), (3, xi x), (4, xi 0)]) (st' := []) rfl ?_
  refine ex_st 1 (pc' := 8) (ls' := [(0, xr 104), (1, xi 0), (2, xi 4), (3, xi x), (4, xi 0)]) (st' := [xi 4]) rfl ?_
  refine ex_call (ct_G_isKind (by decide)) (by decide) rfl ⟨rfl, rfl, rfl⟩ ⟨Nat.le_of_ble_eq_true rfl, rfl, rfl⟩ (Nat.le_of_ble_eq_true rfl) rfl ?_
  refine ex_bne rfl (fun h0 => ?_) (fun h0 => ?_)
  · refine ex_st 6 (pc' := 24) (ls' := [(0, xr 104), (1, xi 0), (2, xi 4), (3, xi x), (4, xi 0)]) (st' := [xi 12, xr 1003]) rfl ?_
    refine ex_cald (v := 50) (j := 12) rfl (by decide) rfl (by decide) (by decide) (by decide) (rfl) ?_
    refine ex_st 3 (pc' := 30) (ls' := [(5, xi 50), (0, xr 104), (1, xi 0), (2, xi 4), (3, xi x), (4, xi 0)]) (st' := [xi 50, xr 104]) rfl ?_
    refine ex_call (ct_A_note2 (b := 50) (by decide)) (by decide) rfl ⟨rfl, rfl, rfl⟩ ⟨Nat.le_of_ble_eq_true rfl, rfl, rfl⟩ (Nat.le_of_ble_eq_true rfl) rfl ?_
    refine ex_st 5 (pc' := 41) (ls' := [(6, xi 1), (5, xi 50), (0, xr 104), (1, xi 0), (2, xi 4), (3, xi x), (4, xi 0)]) (st' := [xi 50]) rfl ?_
    refine ex_st 1 (pc' := 228) (ls' := [(6, xi 1), (5, xi 50), (0, xr 104), (1, xi 0), (2, xi 4), (3, xi x), (4, xi 0)]) (st' := []) rfl ?_
    refine ex_st 5 (pc' := 234) (ls' := [(6, xi 1), (5, xi 50), (0, xr 104), (1, xi 0), (2, xi 4), (3, xi x), (4, xi 0)]) (st' := [xi 1, xi x, xi 1, xi 0, xr 104]) rfl ?_
    refine ex_inl (M' := xM_A_run) (as := [xr 104, xi 0, xi 1, xi x, xi 1]) (rest := []) (D' := 17) rfl (Nat.le_of_ble_eq_true rfl) (by decide) rfl ⟨rfl, rfl, rfl⟩ ⟨Nat.le_of_ble_eq_true rfl, rfl, rfl⟩ (Nat.le_of_ble_eq_true rfl) rfl ?_
    refine ex_st 2 (pc' := 4) (ls' := [(0, xr 104), (1, xi 0), (2, xi 1), (3, xi x), (4, xi 1)]) (st' := [xi 20, xi 1]) rfl ?_
    refine ex_st 1 (pc' := 7) (ls' := [(0, xr 104), (1, xi 0), (2, xi 1), (3, xi x), (4, xi 1)]) (st' := []) rfl ?_
    refine ex_st 1 (pc' := 8) (ls' := [(0, xr 104), (1, xi 0), (2, xi 1), (3, xi x), (4, xi 1)]) (st' := [xi 1]) rfl ?_
    refine ex_call (ct_G_isKind (by decide)) (by decide) rfl ⟨rfl, rfl, rfl⟩ ⟨Nat.le_of_ble_eq_true rfl, rfl, rfl⟩ (Nat.le_of_ble_eq_true rfl) rfl ?_
    refine ex_bne rfl (fun h1 => ?_) (fun h1 => ?_)
    · refine ex_st 6 (pc' := 24) (ls' := [(0, xr 104), (1, xi 0), (2, xi 1), (3, xi x), (4, xi 1)]) (st' := [xi 3, xr 1003]) rfl ?_
      refine ex_cald (v := 10) (j := 3) rfl (by decide) rfl (by decide) (by decide) (by decide) (rfl) ?_
      refine ex_st 3 (pc' := 30) (ls' := [(5, xi 10), (0, xr 104), (1, xi 0), (2, xi 1), (3, xi x), (4, xi 1)]) (st' := [xi 10, xr 104]) rfl ?_
      refine ex_call (ct_A_note2 (b := 10) (by decide)) (by decide) rfl ⟨rfl, rfl, rfl⟩ ⟨Nat.le_of_ble_eq_true rfl, rfl, rfl⟩ (Nat.le_of_ble_eq_true rfl) rfl ?_
      refine ex_st 5 (pc' := 41) (ls' := [(6, xi 2), (5, xi 10), (0, xr 104), (1, xi 0), (2, xi 1), (3, xi x), (4, xi 1)]) (st' := [xi 10]) rfl ?_
      refine ex_st 1 (pc' := 140) (ls' := [(6, xi 2), (5, xi 10), (0, xr 104), (1, xi 0), (2, xi 1), (3, xi x), (4, xi 1)]) (st' := []) rfl ?_
      refine ex_st 3 (pc' := 145) (ls' := [(6, xi 2), (5, xi 10), (0, xr 104), (1, xi 0), (2, xi 1), (3, xi x), (4, xi 1)]) (st' := [xi ((wC (aJ I 4 v (↑n)) [50, 10]) 104 4), xi x]) rfl ?_
      rw [wC_f (by decide), aJ_4]
      refine ex_st 1 (pc' := 146) (ls' := [(6, xi 2), (5, xi 10), (0, xr 104), (1, xi 0), (2, xi 1), (3, xi x), (4, xi 1)]) (st' := [xi (x + (↑n))]) rfl ?_
      refine ex_reti rfl rfl ?_
      refine ex_st 1 (pc' := 238) (ls' := [(6, xi 1), (5, xi 50), (0, xr 104), (1, xi 0), (2, xi 4), (3, xi x), (4, xi 0)]) (st' := [xi (-(x + (↑n)))]) rfl ?_
      refine ex_reti rfl rfl ?_
      refine ex_reti rfl rfl ?_
      exact ⟨rfl, rfl⟩
    · exfalso; omega
  · exfalso; omega
set_option maxRecDepth 8000 in
set_option maxHeartbeats 2000000 in
theorem ct_A_begin_4_1 {sc : List Int} {I : Nat → Nat → Int} {L : Nat → Nat → Int64} {n : Nat} {x v : Int} (hn : n < 6) (hq : I (11 + 3 * n) 0 = 4) (hv : I (11 + 3 * n) 1 = v) : x_CE sc 20 xN_A_begin [xr 104, xi 1, xi (↑n), xr (11 + 3 * n), xi x] (xSH, I, L) (some (xi ((z_xor ((-((x + 1) + (↑n))) - v) 6)))) (xSH, wC (aJ I 4 v (↑n)) [51, 20, 11, 50, 10], L) := by
  refine x_CE.of (M := xM_A_begin) rfl (Nat.le_of_ble_eq_true rfl) ?_
  refine ex_st 2 (pc' := 2) (ls' := [(0, xr 104), (1, xi 1), (2, xi (↑n)), (3, xr (11 + 3 * n)), (4, xi x)]) (st' := [xr (11 + 3 * n), xr 104]) rfl ?_
  refine ex_gfi rfl (by omega) (x_so1 n (by omega)).1 (by decide) (by decide) rfl ?_
  rw [hq]
  refine ex_pfi rfl (by decide) (rfl : xSH[104]? = some _) (by decide) rfl (by decide) (fun h => by cases h) ?_
  refine ex_st 2 (pc' := 10) (ls' := [(0, xr 104), (1, xi 1), (2, xi (↑n)), (3, xr (11 + 3 * n)), (4, xi x)]) (st' := [xr (11 + 3 * n), xr 104]) rfl ?_
  refine ex_gfi rfl (by omega) (x_so1 n (by omega)).1 (by decide) (by decide) rfl ?_
  rw [x_up_far (k := 11 + 3 * n) (j := 1) (k0 := 104) (j0 := 2) (by first | decide | omega), hv]
  refine ex_pfi rfl (by decide) (rfl : xSH[104]? = some _) (by decide) rfl (by decide) (fun h => by cases h) ?_
  refine ex_st 2 (pc' := 18) (ls' := [(0, xr 104), (1, xi 1), (2, xi (↑n)), (3, xr (11 + 3 * n)), (4, xi x)]) (st' := [xi (↑n), xr 104]) rfl ?_
  refine ex_pfi rfl (by decide) (rfl : xSH[104]? = some _) (by decide) rfl (by decide) (fun h => by cases h) ?_
  refine ex_st 2 (pc' := 23) (ls' := [(0, xr 104), (1, xi 1), (2, xi (↑n)), (3, xr (11 + 3 * n)), (4, xi x)]) (st' := [xi 0, xr 104]) rfl ?_
  refine ex_pfi rfl (by decide) (rfl : xSH[104]? = some _) (by decide) rfl (by decide) (fun h => by cases h) ?_
  rw [wC_beg]
  refine ex_st 4 (pc' := 32) (ls' := [(0, xr 104), (1, xi 1), (2, xi (↑n)), (3, xr (11 + 3 * n)), (4, xi x)]) (st' := [xi ((wC (aJ I 4 v (↑n)) []) 104 2), xi 1, xr 104]) rfl ?_
  rw [wC_f (by decide), aJ_2]
  refine ex_st 2 (pc' := 35) (ls' := [(0, xr 104), (1, xi 1), (2, xi (↑n)), (3, xr (11 + 3 * n)), (4, xi x)]) (st' := [xi 0, xi x, xi 4, xi 1, xr 104]) rfl ?_
  refine ex_inl (M' := xM_A_run) (as := [xr 104, xi 1, xi 4, xi x, xi 0]) (rest := []) (D' := 18) rfl (Nat.le_of_ble_eq_true rfl) (by decide) rfl ⟨rfl, rfl, rfl⟩ ⟨Nat.le_of_ble_eq_true rfl, rfl, rfl⟩ (Nat.le_of_ble_eq_true rfl) rfl ?_
  refine ex_st 2 (pc' := 4) (ls' := [(0, xr 104), (1, xi 1), (2, xi 4), (3, xi x), (4, xi 0)]) (st' := [xi 20, xi 0]) rfl ?_
  refine ex_st 1 (pc' := 7) (ls' := [(0, xr 104), (1, xi 1), (2, xi 4), (3, xi x), (4, xi 0)]) (st' := []) rfl ?_
  refine ex_st 1 (pc' := 8) (ls' := [(0, xr 104), (1, xi 1), (2, xi 4), (3, xi x), (4, xi 0)]) (st' := [xi 4]) rfl ?_
  refine ex_call (ct_G_isKind (by decide)) (by decide) rfl ⟨rfl, rfl, rfl⟩ ⟨Nat.le_of_ble_eq_true rfl, rfl, rfl⟩ (Nat.le_of_ble_eq_true rfl) rfl ?_
  refine ex_bne rfl (fun h0 => ?_) (fun h0 => ?_)
  · refine ex_st 6 (pc' := 24) (ls' := [(0, xr 104), (1, xi 1), (2, xi 4), (3, xi x), (4, xi 0)]) (st' := [xi 13, xr 1003]) rfl ?_
    refine ex_cald (v := 51) (j := 13) rfl (by decide) rfl (by decide) (by decide) (by decide) (rfl) ?_
    refine ex_st 3 (pc' := 30) (ls' := [(5, xi 51), (0, xr 104), (1, xi 1), (2, xi 4), (3, xi x), (4, xi 0)]) (st' := [xi 51, xr 104]) rfl ?_
    refine ex_call (ct_A_note2 (b := 51) (by decide)) (by decide) rfl ⟨rfl, rfl, rfl⟩ ⟨Nat.le_of_ble_eq_true rfl, rfl, rfl⟩ (Nat.le_of_ble_eq_true rfl) rfl ?_
    refine ex_st 5 (pc' := 41) (ls' := [(6, xi 1), (5, xi 51), (0, xr 104), (1, xi 1), (2, xi 4), (3, xi x), (4, xi 0)]) (st' := [xi 51]) rfl ?_
    refine ex_st 1 (pc' := 239) (ls' := [(6, xi 1), (5, xi 51), (0, xr 104), (1, xi 1), (2, xi 4), (3, xi x), (4, xi 0)]) (st' := []) rfl ?_
    refine ex_st 7 (pc' := 247) (ls' := [(6, xi 1), (5, xi 51), (0, xr 104), (1, xi 1), (2, xi 4), (3, xi x), (4, xi 0)]) (st' := [xi 1, xi (x + 1), xi 1, xi 1, xr 104]) rfl ?_
    refine ex_inl (M' := xM_A_run) (as := [xr 104, xi 1, xi 1, xi (x + 1), xi 1]) (rest := []) (D' := 17) rfl (Nat.le_of_ble_eq_true rfl) (by decide) rfl ⟨rfl, rfl, rfl⟩ ⟨Nat.le_of_ble_eq_true rfl, rfl, rfl⟩ (Nat.le_of_ble_eq_true rfl) rfl ?_
    refine ex_st 2 (pc' := 4) (ls' := [(0, xr 104), (1, xi 1), (2, xi 1), (3, xi (x + 1)), (4, xi 1)]) (st' := [xi 20, xi 1]) rfl ?_
    refine ex_st 1 (pc' := 7) (ls' := [(0, xr 104), (1, xi 1), (2, xi 1), (3, xi (x + 1)), (4, xi 1)]) (st' := []) rfl ?_
    refine ex_st 1 (pc' := 8) (ls' := [(0, xr 104), (1, xi 1), (2, xi 1), (3, xi (x + 1)), (4, xi 1)]) (st' := [xi 1]) rfl ?_
    refine ex_call (ct_G_isKind (by decide)) (by decide) rfl ⟨rfl, rfl, rfl⟩ ⟨Nat.le_of_ble_eq_true rfl, rfl, rfl⟩ (Nat.le_of_ble_eq_true rfl) rfl ?_
    refine ex_bne rfl (fun h1 => ?_) (fun h1 => ?_)
    · refine ex_st 6 (pc' := 24) (ls' := [(0, xr 104), (1, xi 1), (2, xi 1), (3, xi (x + 1)), (4, xi 1)]) (st' := [xi 4, xr 1003]) rfl ?_
      refine ex_cald (v := 20) (j := 4) rfl (by decide) rfl (by decide) (by decide) (by decide) (rfl) ?_
      refine ex_st 3 (pc' := 30) (ls' := [(5, xi 20), (0, xr 104), (1, xi 1), (2, xi 1), (3, xi (x + 1)), (4, xi 1)]) (st' := [xi 20, xr 104]) rfl ?_
      refine ex_call (ct_A_note2 (b := 20) (by decide)) (by decide) rfl ⟨rfl, rfl, rfl⟩ ⟨Nat.le_of_ble_eq_true rfl, rfl, rfl⟩ (Nat.le_of_ble_eq_true rfl) rfl ?_
      refine ex_st 5 (pc' := 41) (ls' := [(6, xi 2), (5, xi 20), (0, xr 104), (1, xi 1), (2, xi 1), (3, xi (x + 1)), (4, xi 1)]) (st' := [xi 20]) rfl ?_
      refine ex_st 1 (pc' := 180) (ls' := [(6, xi 2), (5, xi 20), (0, xr 104), (1, xi 1), (2, xi 1), (3, xi (x + 1)), (4, xi 1)]) (st' := []) rfl ?_
      refine ex_st 5 (pc' := 186) (ls' := [(6, xi 2), (5, xi 20), (0, xr 104), (1, xi 1), (2, xi 1), (3, xi (x + 1)), (4, xi 1)]) (st' := [xi 2, xi (x + 1), xi 0, xi 1, xr 104]) rfl ?_
      refine ex_inl (M' := xM_A_run) (as := [xr 104, xi 1, xi 0, xi (x + 1), xi 2]) (rest := []) (D' := 16) rfl (Nat.le_of_ble_eq_true rfl) (by decide) rfl ⟨rfl, rfl, rfl⟩ ⟨Nat.le_of_ble_eq_true rfl, rfl, rfl⟩ (Nat.le_of_ble_eq_true rfl) rfl ?_
      refine ex_st 2 (pc' := 4) (ls' := [(0, xr 104), (1, xi 1), (2, xi 0), (3, xi (x + 1)), (4, xi 2)]) (st' := [xi 20, xi 2]) rfl ?_
      refine ex_st 1 (pc' := 7) (ls' := [(0, xr 104), (1, xi 1), (2, xi 0), (3, xi (x + 1)), (4, xi 2)]) (st' := []) rfl ?_
      refine ex_st 1 (pc' := 8) (ls' := [(0, xr 104), (1, xi 1), (2, xi 0), (3, xi (x + 1)), (4, xi 2)]) (st' := [xi 0]) rfl ?_
      refine ex_call (ct_G_isKind (by decide)) (by decide) rfl ⟨rfl, rfl, rfl⟩ ⟨Nat.le_of_ble_eq_true rfl, rfl, rfl⟩ (Nat.le_of_ble_eq_true rfl) rfl ?_
      refine ex_bne rfl (fun h2 => ?_) (fun h2 => ?_)
      · refine ex_st 6 (pc' := 24) (ls' := [(0, xr 104), (1, xi 1), (2, xi 0), (3, xi (x + 1)), (4, xi 2)]) (st' := [xi 1, xr 1003]) rfl ?_
        refine ex_cald (v := 11) (j := 1) rfl (by decide) rfl (by decide) (by decide) (by decide) (rfl) ?_
        refine ex_st 3 (pc' := 30) (ls' := [(5, xi 11), (0, xr 104), (1, xi 1), (2, xi 0), (3, xi (x + 1)), (4, xi 2)]) (st' := [xi 11, xr 104]) rfl ?_
        refine ex_call (ct_A_note2 (b := 11) (by decide)) (by decide) rfl ⟨rfl, rfl, rfl⟩ ⟨Nat.le_of_ble_eq_true rfl, rfl, rfl⟩ (Nat.le_of_ble_eq_true rfl) rfl ?_
        refine ex_st 5 (pc' := 41) (ls' := [(6, xi 3), (5, xi 11), (0, xr 104), (1, xi 1), (2, xi 0), (3, xi (x + 1)), (4, xi 2)]) (st' := [xi 11]) rfl ?_
        refine ex_st 1 (pc' := 147) (ls' := [(6, xi 3), (5, xi 11), (0, xr 104), (1, xi 1), (2, xi 0), (3, xi (x + 1)), (4, xi 2)]) (st' := []) rfl ?_
        refine ex_st 4 (pc' := 153) (ls' := [(6, xi 3), (5, xi 11), (0, xr 104), (1, xi 1), (2, xi 0), (3, xi (x + 1)), (4, xi 2)]) (st' := [xi ((wC (aJ I 4 v (↑n)) [51, 20, 11]) 104 2), xi 0, xr 104]) rfl ?_
        rw [wC_f (by decide), aJ_2]
        refine ex_st 2 (pc' := 156) (ls' := [(6, xi 3), (5, xi 11), (0, xr 104), (1, xi 1), (2, xi 0), (3, xi (x + 1)), (4, xi 2)]) (st' := [xi 3, xi (x + 1), xi 4, xi 0, xr 104]) rfl ?_
        refine ex_inl (M' := xM_A_run) (as := [xr 104, xi 0, xi 4, xi (x + 1), xi 3]) (rest := []) (D' := 15) rfl (Nat.le_of_ble_eq_true rfl) (by decide) rfl ⟨rfl, rfl, rfl⟩ ⟨Nat.le_of_ble_eq_true rfl, rfl, rfl⟩ (Nat.le_of_ble_eq_true rfl) rfl ?_
        refine ex_st 2 (pc' := 4) (ls' := [(0, xr 104), (1, xi 0), (2, xi 4), (3, xi (x + 1)), (4, xi 3)]) (st' := [xi 20, xi 3]) rfl ?_
        refine ex_st 1 (pc' := 7) (ls' := [(0, xr 104), (1, xi 0), (2, xi 4), (3, xi (x + 1)), (4, xi 3)]) (st' := []) rfl ?_
        refine ex_st 1 (pc' := 8) (ls' := [(0, xr 104), (1, xi 0), (2, xi 4), (3, xi (x + 1)), (4, xi 3)]) (st' := [xi 4]) rfl ?_
        refine ex_call (ct_G_isKind (by decide)) (by decide) rfl ⟨rfl, rfl, rfl⟩ ⟨Nat.le_of_ble_eq_true rfl, rfl, rfl⟩ (Nat.le_of_ble_eq_true rfl) rfl ?_
        refine ex_bne rfl (fun h3 => ?_) (fun h3 => ?_)
        · refine ex_st 6 (pc' := 24) (ls' := [(0, xr 104), (1, xi 0), (2, xi 4), (3, xi (x + 1)), (4, xi 3)]) (st' := [xi 12, xr 1003]) rfl ?_
          refine ex_cald (v := 50) (j := 12) rfl (by decide) rfl (by decide) (by decide) (by decide) (rfl) ?_
          refine ex_st 3 (pc' := 30) (ls' := [(5, xi 50), (0, xr 104), (1, xi 0), (2, xi 4), (3, xi (x + 1)), (4, xi 3)]) (st' := [xi 50, xr 104]) rfl ?_
          refine ex_call (ct_A_note2 (b := 50) (by decide)) (by decide) rfl ⟨rfl, rfl, rfl⟩ ⟨Nat.le_of_ble_eq_true rfl, rfl, rfl⟩ (Nat.le_of_ble_eq_true rfl) rfl ?_
          refine ex_st 5 (pc' := 41) (ls' := [(6, xi 4), (5, xi 50), (0, xr 104), (1, xi 0), (2, xi 4), (3, xi (x + 1)), (4, xi 3)]) (st' := [xi 50]) rfl ?_
          refine ex_st 1 (pc' := 228) (ls' := [(6, xi 4), (5, xi 50), (0, xr 104), (1, xi 0), (2, xi 4), (3, xi (x + 1)), (4, xi 3)]) (st' := []) rfl ?_
          refine ex_st 5 (pc' := 234) (ls' := [(6, xi 4), (5, xi 50), (0, xr 104), (1, xi 0), (2, xi 4), (3, xi (x + 1)), (4, xi 3)]) (st' := [xi 4, xi (x + 1), xi 1, xi 0, xr 104]) rfl ?_
          refine ex_inl (M' := xM_A_run) (as := [xr 104, xi 0, xi 1, xi (x + 1), xi 4]) (rest := []) (D' := 14) rfl (Nat.le_of_ble_eq_true rfl) (by decide) rfl ⟨rfl, rfl, rfl⟩ ⟨Nat.le_of_ble_eq_true rfl, rfl, rfl⟩ (Nat.le_of_ble_eq_true rfl) rfl ?_
          refine ex_st 2 (pc' := 4) (ls' := [(0, xr 104), (1, xi 0), (2, xi 1), (3, xi (x + 1)), (4, xi 4)]) (st' := [xi 20, xi 4]) rfl ?_
          refine ex_st 1 (pc' := 7) (ls' := [(0, xr 104), (1, xi 0), (2, xi 1), (3, xi (x + 1)), (4, xi 4)]) (st' := []) rfl ?_
          refine ex_st 1 (pc' := 8) (ls' := [(0, xr 104), (1, xi 0), (2, xi 1), (3, xi (x + 1)), (4, xi 4)]) (st' := [xi 1]) rfl ?_
          refine ex_call (ct_G_isKind (by decide)) (by decide) rfl ⟨rfl, rfl, rfl⟩ ⟨Nat.le_of_ble_eq_true rfl, rfl, rfl⟩ (Nat.le_of_ble_eq_true rfl) rfl ?_
          refine ex_bne rfl (fun h4 => ?_) (fun h4 => ?_)
          · refine ex_st 6 (pc' := 24) (ls' := [(0, xr 104), (1, xi 0), (2, xi 1), (3, xi (x + 1)), (4, xi 4)]) (st' := [xi 3, xr 1003]) rfl ?_
            refine ex_cald (v := 10) (j := 3) rfl (by decide) rfl (by decide) (by decide) (by decide) (rfl) ?_
            refine ex_st 3 (pc' := 30) (ls' := [(5, xi 10), (0, xr 104), (1, xi 0), (2, xi 1), (3, xi (x + 1)), (4, xi 4)]) (st' := [xi 10, xr 104]) rfl ?_
            refine ex_call (ct_A_note2 (b := 10) (by decide)) (by decide) rfl ⟨rfl, rfl, rfl⟩ ⟨Nat.le_of_ble_eq_true rfl, rfl, rfl⟩ (Nat.le_of_ble_eq_true rfl) rfl ?_
            refine ex_st 5 (pc' := 41) (ls' := [(6, xi 5), (5, xi 10), (0, xr 104), (1, xi 0), (2, xi 1), (3, xi (x + 1)), (4, xi 4)]) (st' := [xi 10]) rfl ?_
            refine ex_st 1 (pc' := 140) (ls' := [(6, xi 5), (5, xi 10), (0, xr 104), (1, xi 0), (2, xi 1), (3, xi (x + 1)), (4, xi 4)]) (st' := []) rfl ?_
            refine ex_st 3 (pc' := 145) (ls' := [(6, xi 5), (5, xi 10), (0, xr 104), (1, xi 0), (2, xi 1), (3, xi (x + 1)), (4, xi 4)]) (st' := [xi ((wC (aJ I 4 v (↑n)) [51, 20, 11, 50, 10]) 104 4), xi (x + 1)]) rfl ?_
            rw [wC_f (by decide), aJ_4]
            refine ex_st 1 (pc' := 146) (ls' := [(6, xi 5), (5, xi 10), (0, xr 104), (1, xi 0), (2, xi 1), (3, xi (x + 1)), (4, xi 4)]) (st' := [xi ((x + 1) + (↑n))]) rfl ?_
            refine ex_reti rfl rfl ?_
            refine ex_st 1 (pc' := 238) (ls' := [(6, xi 4), (5, xi 50), (0, xr 104), (1, xi 0), (2, xi 4), (3, xi (x + 1)), (4, xi 3)]) (st' := [xi (-((x + 1) + (↑n)))]) rfl ?_
            refine ex_reti rfl rfl ?_
            refine ex_st 2 (pc' := 163) (ls' := [(6, xi 3), (5, xi 11), (0, xr 104), (1, xi 1), (2, xi 0), (3, xi (x + 1)), (4, xi 2)]) (st' := [xi ((wC (aJ I 4 v (↑n)) [51, 20, 11, 50, 10]) 104 3), xi (-((x + 1) + (↑n)))]) rfl ?_
            rw [wC_f (by decide), aJ_3]
            refine ex_st 1 (pc' := 164) (ls' := [(6, xi 3), (5, xi 11), (0, xr 104), (1, xi 1), (2, xi 0), (3, xi (x + 1)), (4, xi 2)]) (st' := [xi ((-((x + 1) + (↑n))) - v)]) rfl ?_
            refine ex_reti rfl rfl ?_
            refine ex_st 1 (pc' := 191) (ls' := [(6, xi 2), (5, xi 20), (0, xr 104), (1, xi 1), (2, xi 1), (3, xi (x + 1)), (4, xi 1)]) (st' := [xi 6, xi ((-((x + 1) + (↑n))) - v)]) rfl ?_
            refine ex_ixor rfl ?_
            generalize hzx1 : z_xor ((-((x + 1) + (↑n))) - v) 6 = zx1
            refine ex_reti rfl rfl ?_
            refine ex_reti rfl rfl ?_
            refine ex_reti rfl rfl ?_
            subst hzx1
            exact ⟨rfl, rfl⟩
          · exfalso; omega
        · exfalso; omega
      · exfalso; omega
    · exfalso; omega
  · exfalso; omega
set_option maxRecDepth 8000 in
set_option maxHeartbeats 2000000 in
theorem ct_A_begin_4_2 {sc : List Int} {I : Nat → Nat → Int} {L : Nat → Nat → Int64} {n : Nat} {x v : Int} (hn : n < 6) (hq : I (11 + 3 * n) 0 = 4) (hv : I (11 + 3 * n) 1 = v) : x_CE sc 20 xN_A_begin [xr 104, xi 2, xi (↑n), xr (11 + 3 * n), xi x] (xSH, I, L) (some (xi ((z_xor ((-((x + 1) + (↑n))) - v) 6) * 2))) (xSH, wC (aJ I 4 v (↑n)) [12, 51, 20, 11, 50, 10], L) := by
  refine x_CE.of (M := xM_A_begin) rfl (Nat.le_of_ble_eq_true rfl) ?_
  refine ex_st 2 (pc' := 2) (ls' := [(0, xr 104), (1, xi 2), (2, xi (↑n)), (3, xr (11 + 3 * n)), (4, xi x)]) (st' := [xr (11 + 3 * n), xr 104]) rfl ?_
  refine ex_gfi rfl (by omega) (x_so1 n (by omega)).1 (by decide) (by decide) rfl ?_
  rw [hq]
  refine ex_pfi rfl (by decide) (rfl : xSH[104]? = some _) (by decide) rfl (by decide) (fun h => by cases h) ?_
  refine ex_st 2 (pc' := 10) (ls' := [(0, xr 104), (1, xi 2), (2, xi (↑n)), (3, xr (11 + 3 * n)), (4, xi x)]) (st' := [xr (11 + 3 * n), xr 104]) rfl ?_
  refine ex_gfi rfl (by omega) (x_so1 n (by omega)).1 (by decide) (by decide) rfl ?_
  rw [x_up_far (k := 11 + 3 * n) (j := 1) (k0 := 104) (j0 := 2) (by first | decide | omega), hv]
  refine ex_pfi rfl (by decide) (rfl : xSH[104]? = some _) (by decide) rfl (by decide) (fun h => by cases h) ?_
  refine ex_st 2 (pc' := 18) (ls' := [(0, xr 104), (1, xi 2), (2, xi (↑n)), (3, xr (11 + 3 * n)), (4, xi x)]) (st' := [xi (↑n), xr 104]) rfl ?_
  refine ex_pfi rfl (by decide) (rfl : xSH[104]? = some _) (by decide) rfl (by decide) (fun h => by cases h) ?_
  refine ex_st 2 (pc' := 23) (ls' := [(0, xr 104), (1, xi 2), (2, xi (↑n)), (3, xr (11 + 3 * n)), (4, xi x)]) (st' := [xi 0, xr 104]) rfl ?_
  refine ex_pfi rfl (by decide) (rfl : xSH[104]? = some _) (by decide) rfl (by decide) (fun h => by cases h) ?_
  rw [wC_beg]
  refine ex_st 4 (pc' := 32) (ls' := [(0, xr 104), (1, xi 2), (2, xi (↑n)), (3, xr (11 + 3 * n)), (4, xi x)]) (st' := [xi ((wC (aJ I 4 v (↑n)) []) 104 2), xi 2, xr 104]) rfl ?_
  rw [wC_f (by decide), aJ_2]
  refine ex_st 2 (pc' := 35) (ls' := [(0, xr 104), (1, xi 2), (2, xi (↑n)), (3, xr (11 + 3 * n)), (4, xi x)]) (st' := [xi 0, xi x, xi 4, xi 2, xr 104]) rfl ?_
  refine ex_inl (M' := xM_A_run) (as := [xr 104, xi 2, xi 4, xi x, xi 0]) (rest := []) (D' := 18) rfl (Nat.le_of_ble_eq_true rfl) (by decide) rfl ⟨rfl, rfl, rfl⟩ ⟨Nat.le_of_ble_eq_true rfl, rfl, rfl⟩ (Nat.le_of_ble_eq_true rfl) rfl ?_
  refine ex_st 2 (pc' := 4) (ls' := [(0, xr 104), (1, xi 2), (2, xi 4), (3, xi x), (4, xi 0)]) (st' := [xi 20, xi 0]) rfl ?_
  refine ex_st 1 (pc' := 7) (ls' := [(0, xr 104), (1, xi 2), (2, xi 4), (3, xi x), (4, xi 0)]) (st' := []) rfl ?_
  refine ex_st 1 (pc' := 8) (ls' := [(0, xr 104), (1, xi 2), (2, xi 4), (3, xi x), (4, xi 0)]) (st' := [xi 4]) rfl ?_
  refine ex_call (ct_G_isKind (by decide)) (by decide) rfl ⟨rfl, rfl, rfl⟩ ⟨Nat.le_of_ble_eq_true rfl, rfl, rfl⟩ (Nat.le_of_ble_eq_true rfl) rfl ?_
  refine ex_bne rfl (fun h0 => ?_) (fun h0 => ?_)
  · refine ex_st 6 (pc' := 24) (ls' := [(0, xr 104), (1, xi 2), (2, xi 4), (3, xi x), (4, xi 0)]) (st' := [xi 14, xr 1003]) rfl ?_
    refine ex_cald (v := 12) (j := 14) rfl (by decide) rfl (by decide) (by decide) (by decide) (rfl) ?_
    refine ex_st 3 (pc' := 30) (ls' := [(5, xi 12), (0, xr 104), (1, xi 2), (2, xi 4), (3, xi x), (4, xi 0)]) (st' := [xi 12, xr 104]) rfl ?_
    refine ex_call (ct_A_note2 (b := 12) (by decide)) (by decide) rfl ⟨rfl, rfl, rfl⟩ ⟨Nat.le_of_ble_eq_true rfl, rfl, rfl⟩ (Nat.le_of_ble_eq_true rfl) rfl ?_
    refine ex_st 5 (pc' := 41) (ls' := [(6, xi 1), (5, xi 12), (0, xr 104), (1, xi 2), (2, xi 4), (3, xi x), (4, xi 0)]) (st' := [xi 12]) rfl ?_
    refine ex_st 1 (pc' := 165) (ls' := [(6, xi 1), (5, xi 12), (0, xr 104), (1, xi 2), (2, xi 4), (3, xi x), (4, xi 0)]) (st' := []) rfl ?_
    refine ex_st 4 (pc' := 171) (ls' := [(6, xi 1), (5, xi 12), (0, xr 104), (1, xi 2), (2, xi 4), (3, xi x), (4, xi 0)]) (st' := [xi ((wC (aJ I 4 v (↑n)) [12]) 104 2), xi 1, xr 104]) rfl ?_
    rw [wC_f (by decide), aJ_2]
    refine ex_st 2 (pc' := 174) (ls' := [(6, xi 1), (5, xi 12), (0, xr 104), (1, xi 2), (2, xi 4), (3, xi x), (4, xi 0)]) (st' := [xi 1, xi x, xi 4, xi 1, xr 104]) rfl ?_
    refine ex_inl (M' := xM_A_run) (as := [xr 104, xi 1, xi 4, xi x, xi 1]) (rest := []) (D' := 17) rfl (Nat.le_of_ble_eq_true rfl) (by decide) rfl ⟨rfl, rfl, rfl⟩ ⟨Nat.le_of_ble_eq_true rfl, rfl, rfl⟩ (Nat.le_of_ble_eq_true rfl) rfl ?_
    refine ex_st 2 (pc' := 4) (ls' := [(0, xr 104), (1, xi 1), (2, xi 4), (3, xi x), (4, xi 1)]) (st' := [xi 20, xi 1]) rfl ?_
    refine ex_st 1 (pc' := 7) (ls' := [(0, xr 104), (1, xi 1), (2, xi 4), (3, xi x), (4, xi 1)]) (st' := []) rfl ?_
    refine ex_st 1 (pc' := 8) (ls' := [(0, xr 104), (1, xi 1), (2, xi 4), (3, xi x), (4, xi 1)]) (st' := [xi 4]) rfl ?_
    refine ex_call (ct_G_isKind (by decide)) (by decide) rfl ⟨rfl, rfl, rfl⟩ ⟨Nat.le_of_ble_eq_true rfl, rfl, rfl⟩ (Nat.le_of_ble_eq_true rfl) rfl ?_
    refine ex_bne rfl (fun h1 => ?_) (fun h1 => ?_)
    · refine ex_st 6 (pc' := 24) (ls' := [(0, xr 104), (1, xi 1), (2, xi 4), (3, xi x), (4, xi 1)]) (st' := [xi 13, xr 1003]) rfl ?_
      refine ex_cald (v := 51) (j := 13) rfl (by decide) rfl (by decide) (by decide) (by decide) (rfl) ?_
      refine ex_st 3 (pc' := 30) (ls' := [(5, xi 51), (0, xr 104), (1, xi 1), (2, xi 4), (3, xi x), (4, xi 1)]) (st' := [xi 51, xr 104]) rfl ?_
      refine ex_call (ct_A_note2 (b := 51) (by decide)) (by decide) rfl ⟨rfl, rfl, rfl⟩ ⟨Nat.le_of_ble_eq_true rfl, rfl, rfl⟩ (Nat.le_of_ble_eq_true rfl) rfl ?_
      refine ex_st 5 (pc' := 41) (ls' := [(6, xi 2), (5, xi 51), (0, xr 104), (1, xi 1), (2, xi 4), (3, xi x), (4, xi 1)]) (st' := [xi 51]) rfl ?_
      refine ex_st 1 (pc' := 239) (ls' := [(6, xi 2), (5, xi 51), (0, xr 104), (1, xi 1), (2, xi 4), (3, xi x), (4, xi 1)]) (st' := []) rfl ?_
      refine ex_st 7 (pc' := 247) (ls' := [(6, xi 2), (5, xi 51), (0, xr 104), (1, xi 1), (2, xi 4), (3, xi x), (4, xi 1)]) (st' := [xi 2, xi (x + 1), xi 1, xi 1, xr 104]) rfl ?_
      refine ex_inl (M' := xM_A_run) (as := [xr 104, xi 1, xi 1, xi (x + 1), xi 2]) (rest := []) (D' := 16) rfl (Nat.le_of_ble_eq_true rfl) (by decide) rfl ⟨rfl, rfl, rfl⟩ ⟨Nat.le_of_ble_eq_true rfl, rfl, rfl⟩ (Nat.le_of_ble_eq_true rfl) rfl ?_
      refine ex_st 2 (pc' := 4) (ls' := [(0, xr 104), (1, xi 1), (2, xi 1), (3, xi (x + 1)), (4, xi 2)]) (st' := [xi 20, xi 2]) rfl ?_
      refine ex_st 1 (pc' := 7) (ls' := [(0, xr 104), (1, xi 1), (2, xi 1), (3, xi (x + 1)), (4, xi 2)]) (st' := []) rfl ?_
      refine ex_st 1 (pc' := 8) (ls' := [(0, xr 104), (1, xi 1), (2, xi 1), (3, xi (x + 1)), (4, xi 2)]) (st' := [xi 1]) rfl ?_
      refine ex_call (ct_G_isKind (by decide)) (by decide) rfl ⟨rfl, rfl, rfl⟩ ⟨Nat.le_of_ble_eq_true rfl, rfl, rfl⟩ (Nat.le_of_ble_eq_true rfl) rfl ?_
      refine ex_bne rfl (fun h2 => ?_) (fun h2 => ?_)
      · refine ex_st 6 (pc' := 24) (ls' := [(0, xr 104), (1, xi 1), (2, xi 1), (3, xi (x + 1)), (4, xi 2)]) (st' := [xi 4, xr 1003]) rfl ?_
        refine ex_cald (v := 20) (j := 4) rfl (by decide) rfl (by decide) (by decide) (by decide) (rfl) ?_
        refine ex_st 3 (pc' := 30) (ls' := [(5, xi 20), (0, xr 104), (1, xi 1), (2, xi 1), (3, xi (x + 1)), (4, xi 2)]) (st' := [xi 20, xr 104]) rfl ?_
        refine ex_call (ct_A_note2 (b := 20) (by decide)) (by decide) rfl ⟨rfl, rfl, rfl⟩ ⟨Nat.le_of_ble_eq_true rfl, rfl, rfl⟩ (Nat.le_of_ble_eq_true rfl) rfl ?_
        refine ex_st 5 (pc' := 41) (ls' := [(6, xi 3), (5, xi 20), (0, xr 104), (1, xi 1), (2, xi 1), (3, xi (x + 1)), (4, xi 2)]) (st' := [xi 20]) rfl ?_
        refine ex_st 1 (pc' := 180) (ls' := [(6, xi 3), (5, xi 20), (0, xr 104), (1, xi 1), (2, xi 1), (3, xi (x + 1)), (4, xi 2)]) (st' := []) rfl ?_
        refine ex_st 5 (pc' := 186) (ls' := [(6, xi 3), (5, xi 20), (0, xr 104), (1, xi 1), (2, xi 1), (3, xi (x + 1)), (4, xi 2)]) (st' := [xi 3, xi (x + 1), xi 0, xi 1, xr 104]) rfl ?_
        refine ex_inl (M' := xM_A_run) (as := [xr 104, xi 1, xi 0, xi (x + 1), xi 3]) (rest := []) (D' := 15) rfl (Nat.le_of_ble_eq_true rfl) (by decide) rfl ⟨rfl, rfl, rfl⟩ ⟨Nat.le_of_ble_eq_true rfl, rfl, rfl⟩ (Nat.le_of_ble_eq_true rfl) rfl ?_
        refine ex_st 2 (pc' := 4) (ls' := [(0, xr 104), (1, xi 1), (2, xi 0), (3, xi (x + 1)), (4, xi 3)]) (st' := [xi 20, xi 3]) rfl ?_
        refine ex_st 1 (pc' := 7) (ls' := [(0, xr 104), (1, xi 1), (2, xi 0), (3, xi (x + 1)), (4, xi 3)]) (st' := []) rfl ?_
        refine ex_st 1 (pc' := 8) (ls' := [(0, xr 104), (1, xi 1), (2, xi 0), (3, xi (x + 1)), (4, xi 3)]) (st' := [xi 0]) rfl ?_
        refine ex_call (ct_G_isKind (by decide)) (by decide) rfl ⟨rfl, rfl, rfl⟩ ⟨Nat.le_of_ble_eq_true rfl, rfl, rfl⟩ (Nat.le_of_ble_eq_true rfl) rfl ?_
        refine ex_bne rfl (fun h3 => ?_) (fun h3 => ?_)
        · refine ex_st 6 (pc' := 24) (ls' := [(0, xr 104), (1, xi 1), (2, xi 0), (3, xi (x + 1)), (4, xi 3)]) (st' := [xi 1, xr 1003]) rfl ?_
          refine ex_cald (v := 11) (j := 1) rfl (by decide) rfl (by decide) (by decide) (by decide) (rfl) ?_
          refine ex_st 3 (pc' := 30) (ls' := [(5, xi 11), (0, xr 104), (1, xi 1), (2, xi 0), (3, xi (x + 1)), (4, xi 3)]) (st' := [xi 11, xr 104]) rfl ?_
          refine ex_call (ct_A_note2 (b := 11) (by decide)) (by decide) rfl ⟨rfl, rfl, rfl⟩ ⟨Nat.le_of_ble_eq_true rfl, rfl, rfl⟩ (Nat.le_of_ble_eq_true rfl) rfl ?_
          refine ex_st 5 (pc' := 41) (ls' := [(6, xi 4), (5, xi 11), (0, xr 104), (1, xi 1), (2, xi 0), (3, xi (x + 1)), (4, xi 3)]) (st' := [xi 11]) rfl ?_
          refine ex_st 1 (pc' := 147) (ls' := [(6, xi 4), (5, xi 11), (0, xr 104), (1, xi 1), (2, xi 0), (3, xi (x + 1)), (4, xi 3)]) (st' := []) rfl ?_
          refine ex_st 4 (pc' := 153) (ls' := [(6, xi 4), (5, xi 11), (0, xr 104), (1, xi 1), (2, xi 0), (3, xi (x + 1)), (4, xi 3)]) (st' := [xi ((wC (aJ I 4 v (↑n)) [12, 51, 20, 11]) 104 2), xi 0, xr 104]) rfl ?_
          rw [wC_f (by decide), aJ_2]
          refine ex_st 2 (pc' := 156) (ls' := [(6, xi 4), (5, xi 11), (0, xr 104), (1, xi 1), (2, xi 0), (3, xi (x + 1)), (4, xi 3)]) (st' := [xi 4, xi (x + 1), xi 4, xi 0, xr 104]) rfl ?_
          refine ex_inl (M' := xM_A_run) (as := [xr 104, xi 0, xi 4, xi (x + 1), xi 4]) (rest := []) (D' := 14) rfl (Nat.le_of_ble_eq_true rfl) (by decide) rfl ⟨rfl, rfl, rfl⟩ ⟨Nat.le_of_ble_eq_true rfl, rfl, rfl⟩ (Nat.le_of_ble_eq_true rfl) rfl ?_
          refine ex_st 2 (pc' := 4) (ls' := [(0, xr 104), (1, xi 0), (2, xi 4), (3, xi (x + 1)), (4, xi 4)]) (st' := [xi 20, xi 4]) rfl ?_
          refine ex_st 1 (pc' := 7) (ls' := [(0, xr 104), (1, xi 0), (2, xi 4), (3, xi (x + 1)), (4, xi 4)]) (st' := []) rfl ?_
          refine ex_st 1 (pc' := 8) (ls' := [(0, xr 104), (1, xi 0), (2, xi 4), (3, xi (x + 1)), (4, xi 4)]) (st' := [xi 4]) rfl ?_
          refine ex_call (ct_G_isKind (by decide)) (by decide) rfl ⟨rfl, rfl, rfl⟩ ⟨Nat.le_of_ble_eq_true rfl, rfl, rfl⟩ (Nat.le_of_ble_eq_true rfl) rfl ?_
          refine ex_bne rfl (fun h4 => ?_) (fun h4 => ?_)
          · refine ex_st 6 (pc' := 24) (ls' := [(0, xr 104), (1, xi 0), (2, xi 4), (3, xi (x + 1)), (4, xi 4)]) (st' := [xi 12, xr 1003]) rfl ?_
            refine ex_cald (v := 50) (j := 12) rfl (by decide) rfl (by decide) (by decide) (by decide) (rfl) ?_
            refine ex_st 3 (pc' := 30) (ls' := [(5, xi 50), (0, xr 104), (1, xi 0), (2, xi 4), (3, xi (x + 1)), (4, xi 4)]) (st' := [xi 50, xr 104]) rfl ?_
            refine ex_call (ct_A_note2 (b := 50) (by decide)) (by decide) rfl ⟨rfl, rfl, rfl⟩ ⟨Nat.le_of_ble_eq_true rfl, rfl, rfl⟩ (Nat.le_of_ble_eq_true rfl) rfl ?_
            refine ex_st 5 (pc' := 41) (ls' := [(6, xi 5), (5, xi 50), (0, xr 104), (1, xi 0), (2, xi 4), (3, xi (x + 1)), (4, xi 4)]) (st' := [xi 50]) rfl ?_
            refine ex_st 1 (pc' := 228) (ls' := [(6, xi 5), (5, xi 50), (0, xr 104), (1, xi 0), (2, xi 4), (3, xi (x + 1)), (4, xi 4)]) (st' := []) rfl ?_
            refine ex_st 5 (pc' := 234) (ls' := [(6, xi 5), (5, xi 50), (0, xr 104), (1, xi 0), (2, xi 4), (3, xi (x + 1)), (4, xi 4)]) (st' := [xi 5, xi (x + 1), xi 1, xi 0, xr 104]) rfl ?_
            refine ex_inl (M' := xM_A_run) (as := [xr 104, xi 0, xi 1, xi (x + 1), xi 5]) (rest := []) (D' := 13) rfl (Nat.le_of_ble_eq_true rfl) (by decide) rfl ⟨rfl, rfl, rfl⟩ ⟨Nat.le_of_ble_eq_true rfl, rfl, rfl⟩ (Nat.le_of_ble_eq_true rfl) rfl ?_
            refine ex_st 2 (pc' := 4) (ls' := [(0, xr 104), (1, xi 0), (2, xi 1), (3, xi (x + 1)), (4, xi 5)]) (st' := [xi 20, xi 5]) rfl ?_
            refine ex_st 1 (pc' := 7) (ls' := [(0, xr 104), (1, xi 0), (2, xi 1), (3, xi (x + 1)), (4, xi 5)]) (st' := []) rfl ?_
            refine ex_st 1 (pc' := 8) (ls' := [(0, xr 104), (1, xi 0), (2, xi 1), (3, xi (x + 1)), (4, xi 5)]) (st' := [xi 1]) rfl ?_
            refine ex_call (ct_G_isKind (by decide)) (by decide) rfl ⟨rfl, rfl, rfl⟩ ⟨Nat.le_of_ble_eq_true rfl, rfl, rfl⟩ (Nat.le_of_ble_eq_true rfl) rfl ?_
            refine ex_bne rfl (fun h5 => ?_) (fun h5 => ?_)
            · refine ex_st 6 (pc' := 24) (ls' := [(0, xr 104), (1, xi 0), (2, xi 1), (3, xi (x + 1)), (4, xi 5)]) (st' := [xi 3, xr 1003]) rfl ?_
              refine ex_cald (v := 10) (j := 3) rfl (by decide) rfl (by decide) (by decide) (by decide) (rfl) ?_
              refine ex_st 3 (pc' := 30) (ls' := [(5, xi 10), (0, xr 104), (1, xi 0), (2, xi 1), (3, xi (x + 1)), (4, xi 5)]) (st' := [xi 10, xr 104]) rfl ?_
              refine ex_call (ct_A_note2 (b := 10) (by decide)) (by decide) rfl ⟨rfl, rfl, rfl⟩ ⟨Nat.le_of_ble_eq_true rfl, rfl, rfl⟩ (Nat.le_of_ble_eq_true rfl) rfl ?_
              refine ex_st 5 (pc' := 41) (ls' := [(6, xi 6), (5, xi 10), (0, xr 104), (1, xi 0), (2, xi 1), (3, xi (x + 1)), (4, xi 5)]) (st' := [xi 10]) rfl ?_
              refine ex_st 1 (pc' := 140) (ls' := [(6, xi 6), (5, xi 10), (0, xr 104), (1, xi 0), (2, xi 1), (3, xi (x + 1)), (4, xi 5)]) (st' := []) rfl ?_
              refine ex_st 3 (pc' := 145) (ls' := [(6, xi 6), (5, xi 10), (0, xr 104), (1, xi 0), (2, xi 1), (3, xi (x + 1)), (4, xi 5)]) (st' := [xi ((wC (aJ I 4 v (↑n)) [12, 51, 20, 11, 50, 10]) 104 4), xi (x + 1)]) rfl ?_
              rw [wC_f (by decide), aJ_4]
              refine ex_st 1 (pc' := 146) (ls' := [(6, xi 6), (5, xi 10), (0, xr 104), (1, xi 0), (2, xi 1), (3, xi (x + 1)), (4, xi 5)]) (st' := [xi ((x + 1) + (↑n))]) rfl ?_
              refine ex_reti rfl rfl ?_
              refine ex_st 1 (pc' := 238) (ls' := [(6, xi 5), (5, xi 50), (0, xr 104), (1, xi 0), (2, xi 4), (3, xi (x + 1)), (4, xi 4)]) (st' := [xi (-((x + 1) + (↑n)))]) rfl ?_
              refine ex_reti rfl rfl ?_
              refine ex_st 2 (pc' := 163) (ls' := [(6, xi 4), (5, xi 11), (0, xr 104), (1, xi 1), (2, xi 0), (3, xi (x + 1)), (4, xi 3)]) (st' := [xi ((wC (aJ I 4 v (↑n)) [12, 51, 20, 11, 50, 10]) 104 3), xi (-((x + 1) + (↑n)))]) rfl ?_
              rw [wC_f (by decide), aJ_3]
              refine ex_st 1 (pc' := 164) (ls' := [(6, xi 4), (5, xi 11), (0, xr 104), (1, xi 1), (2, xi 0), (3, xi (x + 1)), (4, xi 3)]) (st' := [xi ((-((x + 1) + (↑n))) - v)]) rfl ?_
              refine ex_reti rfl rfl ?_
              refine ex_st 1 (pc' := 191) (ls' := [(6, xi 3), (5, xi 20), (0, xr 104), (1, xi 1), (2, xi 1), (3, xi (x + 1)), (4, xi 2)]) (st' := [xi 6, xi ((-((x + 1) + (↑n))) - v)]) rfl ?_
              refine ex_ixor rfl ?_
              generalize hzx1 : z_xor ((-((x + 1) + (↑n))) - v) 6 = zx1
              refine ex_reti rfl rfl ?_
              refine ex_reti rfl rfl ?_
              refine ex_st 2 (pc' := 179) (ls' := [(6, xi 1), (5, xi 12), (0, xr 104), (1, xi 2), (2, xi 4), (3, xi x), (4, xi 0)]) (st' := [xi (zx1 * 2)]) rfl ?_
              refine ex_reti rfl rfl ?_
              refine ex_reti rfl rfl ?_
              subst hzx1
              exact ⟨rfl, rfl⟩
            · exfalso; omega
          · exfalso; omega
        · exfalso; omega
      · exfalso; omega
    · exfalso; omega
  · exfalso; omega
set_option maxRecDepth 8000 in
set_option maxHeartbeats 2000000 in
theorem ct_A_begin_5_0 {sc : List Int} {I : Nat → Nat → Int} {L : Nat → Nat → Int64} {n : Nat} {x v : Int} (hn : n < 6) (hq : I (11 + 3 * n) 0 = 5) (hv : I (11 + 3 * n) 1 = v) : x_CE sc 20 xN_A_begin [xr 104, xi 0, xi (↑n), xr (11 + 3 * n), xi x] (xSH, I, L) (some (xi ((x * 3) + (↑n)))) (xSH, wC (aJ I 5 v (↑n)) [30, 10], L) := by
  refine x_CE.of (M := xM_A_begin) rfl (Nat.le_of_ble_eq_true rfl) ?_
  refine ex_st 2 (pc' := 2) (ls' := [(0, xr 104), (1, xi 0), (2, xi (↑n)), (3, xr (11 + 3 * n)), (4, xi x)]) (st' := [xr (11 + 3 * n), xr 104]) rfl ?_
  refine ex_gfi rfl (by omega) (x_so1 n (by omega)).1 (by decide) (by decide) rfl ?_
  rw [hq]
  refine ex_pfi rfl (by decide) (rfl : xSH[104]? = some _) (by decide) rfl (by decide) (fun h => by cases h) ?_
  refine ex_st 2 (pc' := 10) (ls' := [(0, xr 104), (1, xi 0), (2, xi (↑n)), (3, xr (11 + 3 * n)), (4, xi x)]) (st' := [xr (11 + 3 * n), xr 104]) rfl ?_
  refine ex_gfi rfl (by omega) (x_so1 n (by omega)).1 (by decide) (by decide) rfl ?_
  rw [x_up_far (k := 11 + 3 * n) (j := 1) (k0 := 104) (j0 := 2) (by first | decide | omega), hv]
  refine ex_pfi rfl (by decide) (rfl : xSH[104]? = some _) (by decide) rfl (by decide) (fun h => by cases h) ?_
  refine ex_st 2 (pc' := 18) (ls' := [(0, xr 104), (1, xi 0), (2, xi (↑n)), (3, xr (11 + 3 * n)), (4, xi x)]) (st' := [xi (↑n), xr 104]) rfl ?_
  refine ex_pfi rfl (by decide) (rfl : xSH[104]? = some _) (by decide) rfl (by decide) (fun h => by cases h) ?_
  refine ex_st 2 (pc' := 23) (ls' := [(0, xr 104), (1, xi 0), (2, xi (↑n)), (3, xr (11 + 3 * n)), (4, xi x)]) (st' := [xi 0, xr 104]) rfl ?_
  refine ex_pfi rfl (by decide) (rfl : xSH[104]? = some _) (by decide) rfl (by decide) (fun h => by cases h) ?_
  rw [wC_beg]
  refine ex_st 4 (pc' := 32) (ls' := [(0, xr 104), (1, xi 0), (2, xi (↑n)), (3, xr (11 + 3 * n)), (4, xi x)]) (st' := [xi ((wC (aJ I 5 v (↑n)) []) 104 2), xi 0, xr 104]) rfl ?_
  rw [wC_f (by decide), aJ_2]
  refine ex_st 2 (pc' := 35) (ls' := [(0, xr 104), (1, xi 0), (2, xi (↑n)), (3, xr (11 + 3 * n)), (4, xi x)]) (st' := [xi 0, xi x, xi 5, xi 0, xr 104]) rfl ?_
  refine ex_inl (M' := xM_A_run) (as := [xr 104, xi 0, xi 5, xi x, xi 0]) (rest := []) (D' := 18) rfl (Nat.le_of_ble_eq_true rfl) (by decide) rfl ⟨rfl, rfl, rfl⟩ ⟨Nat.le_of_ble_eq_true rfl, rfl, rfl⟩ (Nat.le_of_ble_eq_true rfl) rfl ?_
  refine ex_st 2 (pc' := 4) (ls' := [(0, xr 104), (1, xi 0), (2, xi 5), (3, xi x), (4, xi 0)]) (st' := [xi 20, xi 0]) rfl ?_
  refine ex_st 1 (pc' := 7) (ls' := [(0, xr 104), (1, xi 0), (2, xi 5), (3, xi x), (4, xi 0)]) (st' := []) rfl ?_
  refine ex_st 1 (pc' := 8) (ls' := [(0, xr 104), (1, xi 0), (2, xi 5), (3, xi x), (4, xi 0)]) (st' := [xi 5]) rfl ?_
  refine ex_call (ct_G_isKind (by decide)) (by decide) rfl ⟨rfl, rfl, rfl⟩ ⟨Nat.le_of_ble_eq_true rfl, rfl, rfl⟩ (Nat.le_of_ble_eq_true rfl) rfl ?_
  refine ex_bne rfl (fun h0 => ?_) (fun h0 => ?_)
  · refine ex_st 6 (pc' := 24) (ls' := [(0, xr 104), (1, xi 0), (2, xi 5), (3, xi x), (4, xi 0)]) (st' := [xi 15, xr 1003]) rfl ?_
    refine ex_cald (v := 30) (j := 15) rfl (by decide) rfl (by decide) (by decide) (by decide) (rfl) ?_
    refine ex_st 3 (pc' := 30) (ls' := [(5, xi 30), (0, xr 104), (1, xi 0), (2, xi 5), (3, xi x), (4, xi 0)]) (st' := [xi 30, xr 104]) rfl ?_
    refine ex_call (ct_A_note2 (b := 30) (by decide)) (by decide) rfl ⟨rfl, rfl, rfl⟩ ⟨Nat.le_of_ble_eq_true rfl, rfl, rfl⟩ (Nat.le_of_ble_eq_true rfl) rfl ?_
    refine ex_st 5 (pc' := 41) (ls' := [(6, xi 1), (5, xi 30), (0, xr 104), (1, xi 0), (2, xi 5), (3, xi x), (4, xi 0)]) (st' := [xi 30]) rfl ?_
    refine ex_st 1 (pc' := 193) (ls' := [(6, xi 1), (5, xi 30), (0, xr 104), (1, xi 0), (2, xi 5), (3, xi x), (4, xi 0)]) (st' := []) rfl ?_
    refine ex_st 7 (pc' := 201) (ls' := [(6, xi 1), (5, xi 30), (0, xr 104), (1, xi 0), (2, xi 5), (3, xi x), (4, xi 0)]) (st' := [xi 1, xi (x * 3), xi 0, xi 0, xr 104]) rfl ?_
    refine ex_inl (M' := xM_A_run) (as := [xr 104, xi 0, xi 0, xi (x * 3), xi 1]) (rest := []) (D' := 17) rfl (Nat.le_of_ble_eq_true rfl) (by decide) rfl ⟨rfl, rfl, rfl⟩ ⟨Nat.le_of_ble_eq_true rfl, rfl, rfl⟩ (Nat.le_of_ble_eq_true rfl) rfl ?_
    refine ex_st 2 (pc' := 4) (ls' := [(0, xr 104), (1, xi 0), (2, xi 0), (3, xi (x * 3)), (4, xi 1)]) (st' := [xi 20, xi 1]) rfl ?_
    refine ex_st 1 (pc' := 7) (ls' := [(0, xr 104), (1, xi 0), (2, xi 0), (3, xi (x * 3)), (4, xi 1)]) (st' := []) rfl ?_
    refine ex_st 1 (pc' := 8) (ls' := [(0, xr 104), (1, xi 0), (2, xi 0), (3, xi (x * 3)), (4, xi 1)]) (st' := [xi 0]) rfl ?_
    refine ex_call (ct_G_isKind (by decide)) (by decide) rfl ⟨rfl, rfl, rfl⟩ ⟨Nat.le_of_ble_eq_true rfl, rfl, rfl⟩ (Nat.le_of_ble_eq_true rfl) rfl ?_
    refine ex_bne rfl (fun h1 => ?_) (fun h1 => ?_)
    · refine ex_st 6 (pc' := 24) (ls' := [(0, xr 104), (1, xi 0), (2, xi 0), (3, xi (x * 3)), (4, xi 1)]) (st' := [xi 0, xr 1003]) rfl ?_
      refine ex_cald (v := 10) (j := 0) rfl (by decide) rfl (by decide) (by decide) (by decide) (rfl) ?_
      refine ex_st 3 (pc' := 30) (ls' := [(5, xi 10), (0, xr 104), (1, xi 0), (2, xi 0), (3, xi (x * 3)), (4, xi 1)]) (st' := [xi 10, xr 104]) rfl ?_
      refine ex_call (ct_A_note2 (b := 10) (by decide)) (by decide) rfl ⟨rfl, rfl, rfl⟩ ⟨Nat.le_of_ble_eq_true rfl, rfl, rfl⟩ (Nat.le_of_ble_eq_true rfl) rfl ?_
      refine ex_st 5 (pc' := 41) (ls' := [(6, xi 2), (5, xi 10), (0, xr 104), (1, xi 0), (2, xi 0), (3, xi (x * 3)), (4, xi 1)]) (st' := [xi 10]) rfl ?_
      refine ex_st 1 (pc' := 140) (ls' := [(6, xi 2), (5, xi 10), (0, xr 104), (1, xi 0), (2, xi 0), (3, xi (x * 3)), (4, xi 1)]) (st' := []) rfl ?_
      refine ex_st 3 (pc' := 145) (ls' := [(6, xi 2), (5, xi 10), (0, xr 104), (1, xi 0), (2, xi 0), (3, xi (x * 3)), (4, xi 1)]) (st' := [xi ((wC (aJ I 5 v (↑n)) [30, 10]) 104 4), xi (x * 3)]) rfl ?_
      rw [wC_f (by decide), aJ_4]
      refine ex_st 1 (pc' := 146) (ls' := [(6, xi 2), (5, xi 10), (0, xr 104), (1, xi 0), (2, xi 0), (3, xi (x * 3)), (4, xi 1)]) (st' := [xi ((x * 3) + (↑n))]) rfl ?_
      refine ex_reti rfl rfl ?_
      refine ex_reti rfl rfl ?_
      refine ex_reti rfl rfl ?_
      exact ⟨rfl, rfl⟩
    · exfalso; omega
  · exfalso; omega
set_option maxRecDepth 8000 in
set_option maxHeartbeats 2000000 in
theorem ct_A_begin_5_1 {sc : List Int} {I : Nat → Nat → Int} {L : Nat → Nat → Int64} {n : Nat} {x v : Int} (hn : n < 6) (hq : I (11 + 3 * n) 0 = 5) (hv : I (11 + 3 * n) 1 = v) : x_CE sc 20 xN_A_begin [xr 104, xi 1, xi (↑n), xr (11 + 3 * n), xi x] (xSH, I, L) (some (xi (((x * 3) + (↑n)) - v))) (xSH, wC (aJ I 5 v (↑n)) [11, 30, 10], L) := by
  refine x_CE.of (M := xM_A_begin) rfl (Nat.le_of_ble_eq_true rfl) ?_
  refine ex_st 2 (pc' := 2) (ls' := [(0, xr 104), (1, xi 1), (2, xi (↑n)), (3, xr (11 + 3 * n)), (4, xi x)]) (st' := [xr (11 + 3 * n), xr 104]) rfl ?_
  refine ex_gfi rfl (by omega) (x_so1 n (by omega)).1 (by decide) (by decide) rfl ?_
  rw [hq]
  refine ex_pfi rfl (by decide) (rfl : xSH[104]? = some _) (by decide) rfl (by decide) (fun h => by cases h) ?_
  refine ex_st 2 (pc' := 10) (ls' := [(0, xr 104), (1, xi 1), (2, xi (↑n)), (3, xr (11 + 3 * n)), (4, xi x)]) (st' := [xr (11 + 3 * n), xr 104]) rfl ?_
  refine ex_gfi rfl (by omega) (x_so1 n (by omega)).1 (by decide) (by decide) rfl ?_
  rw [x_up_far (k := 11 + 3 * n) (j := 1) (k0 := 104) (j0 := 2) (by first | decide | omega), hv]
  refine ex_pfi rfl (by decide) (rfl : xSH[104]? = some _) (by decide) rfl (by decide) (fun h => by cases h) ?_
  refine ex_st 2 (pc' := 18) (ls' := [(0, xr 104), (1, xi 1), (2, xi (↑n)), (3, xr (11 + 3 * n)), (4, xi x)]) (st' := [xi (↑n), xr 104]) rfl ?_
  refine ex_pfi rfl (by decide) (rfl : xSH[104]? = some _) (by decide) rfl (by decide) (fun h => by cases h) ?_
  refine ex_st 2 (pc' := 23) (ls' := [(0, xr 104), (1, xi 1), (2, xi (↑n)), (3, xr (11 + 3 * n)), (4, xi x)]) (st' := [xi 0, xr 104]) rfl ?_
  refine ex_pfi rfl (by decide) (rfl : xSH[104]? = some _) (by decide) rfl (by decide) (fun h => by cases h) ?_
  rw [wC_beg]
  refine ex_st 4 (pc' := 32) (ls' := [(0, xr 104), (1, xi 1), (2, xi (↑n)), (3, xr (11 + 3 * n)), (4, xi x)]) (st' := [xi ((wC (aJ I 5 v (↑n)) []) 104 2), xi 1, xr 104]) rfl ?_
  rw [wC_f (by decide), aJ_2]
  refine ex_st 2 (pc' := 35) (ls' := [(0, xr 104), (1, xi 1), (2, xi (↑n)), (3, xr (11 + 3 * n)), (4, xi x)]) (st' := [xi 0, xi x, xi 5, xi 1, xr 104]) rfl ?_
  refine ex_inl (M' := xM_A_run) (as := [xr 104, xi 1, xi 5, xi x, xi 0]) (rest := []) (D' := 18) rfl (Nat.le_of_ble_eq_true rfl) (by decide) rfl ⟨rfl, rfl, rfl⟩ ⟨Nat.le_of_ble_eq_true rfl, rfl, rfl⟩ (Nat.le_of_ble_eq_true rfl) rfl ?_
  refine ex_st 2 (pc' := 4) (ls' := [(0, xr 104), (1, xi 1), (2, xi 5), (3, xi x), (4, xi 0)]) (st' := [xi 20, xi 0]) rfl ?_
  refine ex_st 1 (pc' := 7) (ls' := [(0, xr 104), (1, xi 1), (2, xi 5), (3, xi x), (4, xi 0)]) (st' := []) rfl ?_
  refine ex_st 1 (pc' := 8) (ls' := [(0, xr 104), (1, xi 1), (2, xi 5), (3, xi x), (4, xi 0)]) (st' := [xi 5]) rfl ?_
  refine ex_call (ct_G_isKind (by decide)) (by decide) rfl ⟨rfl, rfl, rfl⟩ ⟨Nat.le_of_ble_eq_true rfl, rfl, rfl⟩ (Nat.le_of_ble_eq_true rfl) rfl ?_
  refine ex_bne rfl (fun h0 => ?_) (fun h0 => ?_)
  · refine ex_st 6 (pc' := 24) (ls' := [(0, xr 104), (1, xi 1), (2, xi 5), (3, xi x), (4, xi 0)]) (st' := [xi 16, xr 1003]) rfl ?_
    refine ex_cald (v := 11) (j := 16) rfl (by decide) rfl (by decide) (by decide) (by decide) (rfl) ?_
    refine ex_st 3 (pc' := 30) (ls' := [(5, xi 11), (0, xr 104), (1, xi 1), (2, xi 5), (3, xi x), (4, xi 0)]) (st' := [xi 11, xr 104]) rfl ?_
    refine ex_call (ct_A_note2 (b := 11) (by decide)) (by decide) rfl ⟨rfl, rfl, rfl⟩ ⟨Nat.le_of_ble_eq_true rfl, rfl, rfl⟩ (Nat.le_of_ble_eq_true rfl) rfl ?_
    refine ex_st 5 (pc' := 41) (ls' := [(6, xi 1), (5, xi 11), (0, xr 104), (1, xi 1), (2, xi 5), (3, xi x), (4, xi 0)]) (st' := [xi 11]) rfl ?_
    refine ex_st 1 (pc' := 147) (ls' := [(6, xi 1), (5, xi 11), (0, xr 104), (1, xi 1), (2, xi 5), (3, xi x), (4, xi 0)]) (st' := []) rfl ?_
    refine ex_st 4 (pc' := 153) (ls' := [(6, xi 1), (5, xi 11), (0, xr 104), (1, xi 1), (2, xi 5), (3, xi x), (4, xi 0)]) (st' := [xi ((wC (aJ I 5 v (↑n)) [11]) 104 2), xi 0, xr 104]) rfl ?_
    rw [wC_f (by decide), aJ_2]
    refine ex_st 2 (pc' := 156) (ls' := [(6, xi 1), (5, xi 11), (0, xr 104), (1, xi 1), (2, xi 5), (3, xi x), (4, xi 0)]) (st' := [xi 1, xi x, xi 5, xi 0, xr 104]) rfl ?_
    refine ex_inl (M' := xM_A_run) (as := [xr 104, xi 0, xi 5, xi x, xi 1]) (rest := []) (D' := 17) rfl (Nat.le_of_ble_eq_true rfl) (by decide) rfl ⟨rfl, rfl, rfl⟩ ⟨Nat.le_of_ble_eq_true rfl, rfl, rfl⟩ (Nat.le_of_ble_eq_true rfl) rfl ?_
    refine ex_st 2 (pc' := 4) (ls' := [(0, xr 104), (1, xi 0), (2, xi 5), (3, xi x), (4, xi 1)]) (st' := [xi 20, xi 1]) rfl ?_
    refine ex_st 1 (pc' := 7) (ls' := [(0, xr 104), (1, xi 0), (2, xi 5), (3, xi x), (4, xi 1)]) (st' := []) rfl ?_
    refine ex_st 1 (pc' := 8) (ls' := [(0, xr 104), (1, xi 0), (2, xi 5), (3, xi x), (4, xi 1)]) (st' := [xi 5]) rfl ?_
    refine ex_call (ct_G_isKind (by decide)) (by decide) rfl ⟨rfl, rfl, rfl⟩ ⟨Nat.le_of_ble_eq_true rfl, rfl, rfl⟩ (Nat.le_of_ble_eq_true rfl) rfl ?_
    refine ex_bne rfl (fun h1 => ?_) (fun h1 => ?_)
    · refine ex_st 6 (pc' := 24) (ls' := [(0, xr 104), (1, xi 0), (2, xi 5), (3, xi x), (4, xi 1)]) (st' := [xi 15, xr 1003]) rfl ?_
      refine ex_cald (v := 30) (j := 15) rfl (by decide) rfl (by decide) (by decide) (by decide) (rfl) ?_
      refine ex_st 3 (pc' := 30) (ls' := [(5, xi 30), (0, xr 104), (1, xi 0), (2, xi 5), (3, xi x), (4, xi 1)]) (st' := [xi 30, xr 104]) rfl ?_
      refine ex_call (ct_A_note2 (b := 30) (by decide)) (by decide) rfl ⟨rfl, rfl, rfl⟩ ⟨Nat.le_of_ble_eq_true rfl, rfl, rfl⟩ (Nat.le_of_ble_eq_true rfl) rfl ?_
      refine ex_st 5 (pc' := 41) (ls' := [(6, xi 2), (5, xi 30), (0, xr 104), (1, xi 0), (2, xi 5), (3, xi x), (4, xi 1)]) (st' := [xi 30]) rfl ?_
      refine ex_st 1 (pc' := 193) (ls' := [(6, xi 2), (5, xi 30), (0, xr 104), (1, xi 0), (2, xi 5), (3, xi x), (4, xi 1)]) (st' := []) rfl ?_
      refine ex_st 7 (pc' := 201) (ls' := [(6, xi 2), (5, xi 30), (0, xr 104), (1, xi 0), (2, xi 5), (3, xi x), (4, xi 1)]) (st' := [xi 2, xi (x * 3), xi 0, xi 0, xr 104]) rfl ?_
      refine ex_inl (M' := xM_A_run) (as := [xr 104, xi 0, xi 0, xi (x * 3), xi 2]) (rest := []) (D' := 16) rfl (Nat.le_of_ble_eq_true rfl) (by decide) rfl ⟨rfl, rfl, rfl⟩ ⟨Nat.le_of_ble_eq_true rfl, rfl, rfl⟩ (Nat.le_of_ble_eq_true rfl) rfl ?_
      refine ex_st 2 (pc' := 4) (ls' := [(0, xr 104), (1, xi 0), (2, xi 0), (3, xi (x * 3)), (4, xi 2)]) (st' := [xi 20, xi 2]) rfl ?_
      refine ex_st 1 (pc' := 7) (ls' := [(0, xr 104), (1, xi 0), (2, xi 0), (3, xi (x * 3)), (4, xi 2)]) (st' := []) rfl ?_
      refine ex_st 1 (pc' := 8) (ls' := [(0, xr 104), (1, xi 0), (2, xi 0), (3, xi (x * 3)), (4, xi 2)]) (st' := [xi 0]) rfl ?_
      refine ex_call (ct_G_isKind (by decide)) (by decide) rfl ⟨rfl, rfl, rfl⟩ ⟨Nat.le_of_ble_eq_true rfl, rfl, rfl⟩ (Nat.le_of_ble_eq_true rfl) rfl ?_
      refine ex_bne rfl (fun h2 => ?_) (fun h2 => ?_)
      · refine ex_st 6 (pc' := 24) (ls' := [(0, xr 104), (1, xi 0), (2, xi 0), (3, xi (x * 3)), (4, xi 2)]) (st' := [xi 0, xr 1003]) rfl ?_
        refine ex_cald (v := 10) (j := 0) rfl (by decide) rfl (by decide) (by decide) (by decide) (rfl) ?_
        refine ex_st 3 (pc' := 30) (ls' := [(5, xi 10), (0, xr 104), (1, xi 0), (2, xi 0), (3, xi (x * 3)), (4, xi 2)]) (st' := [xi 10, xr 104]) rfl ?_
        refine ex_call (ct_A_note2 (b := 10) (by decide)) (by decide) rfl ⟨rfl, rfl, rfl⟩ ⟨Nat.le_of_ble_eq_true rfl, rfl, rfl⟩ (Nat.le_of_ble_eq_true rfl) rfl ?_
        refine ex_st 5 (pc' := 41) (ls' := [(6, xi 3), (5, xi 10), (0, xr 104), (1, xi 0), (2, xi 0), (3, xi (x * 3)), (4, xi 2)]) (st' := [xi 10]) rfl ?_
        refine ex_st 1 (pc' := 140) (ls' := [(6, xi 3), (5, xi 10), (0, xr 104), (1, xi 0), (2, xi 0), (3, xi (x * 3)), (4, xi 2)]) (st' := []) rfl ?_
        refine ex_st 3 (pc' := 145) (ls' := [(6, xi 3), (5, xi 10), (0, xr 104), (1, xi 0), (2, xi 0), (3, xi (x * 3)), (4, xi 2)]) (st' := [xi ((wC (aJ I 5 v (↑n)) [11, 30, 10]) 104 4), xi (x * 3)]) rfl ?_
        rw [wC_f (by decide), aJ_4]
        refine ex_st 1 (pc' := 146) (ls' := [(6, xi 3), (5, xi 10), (0, xr 104), (1, xi 0), (2, xi 0), (3, xi (x * 3)), (4, xi 2)]) (st' := [xi ((x * 3) + (↑n))]) rfl ?_
        refine ex_reti rfl rfl ?_
        refine ex_reti rfl rfl ?_
        refine ex_st 2 (pc' := 163) (ls' := [(6, xi 1), (5, xi 11), (0, xr 104), (1, xi 1), (2, xi 5), (3, xi x), (4, xi 0)]) (st' := [xi ((wC (aJ I 5 v (↑n)) [11, 30, 10]) 104 3), xi ((x * 3) + (↑n))]) rfl ?_
        rw [wC_f (by decide), aJ_3]
        refine ex_st 1 (pc' := 164) (ls' := [(6, xi 1), (5, xi 11), (0, xr 104), (1, xi 1), (2, xi 5), (3, xi x), (4, xi 0)]) (st' := [xi (((x * 3) + (↑n)) - v)]) rfl ?_
        refine ex_reti rfl rfl ?_
        refine ex_reti rfl rfl ?_
        exact ⟨rfl, rfl⟩
      · exfalso; omega
    · exfalso; omega
  · exfalso; omega
set_option maxRecDepth 8000 in
set_option maxHeartbeats 2000000 in
theorem ct_A_begin_5_2 {sc : List Int} {I : Nat → Nat → Int} {L : Nat → Nat → Int64} {n : Nat} {x v : Int} (hn : n < 6) (hq : I (11 + 3 * n) 0 = 5) (hv : I (11 + 3 * n) 1 = v) : x_CE sc 20 xN_A_begin [xr 104, xi 2, xi (↑n), xr (11 + 3 * n), xi x] (xSH, I, L) (some (xi (((((x - (↑n)) * 3) + (↑n)) - v) * 2))) (xSH, wC (aJ I 5 v (↑n)) [60, 12, 11, 30, 10], L) := by
  refine x_CE.of (M := xM_A_begin) rfl (Nat.le_of_ble_eq_true rfl) ?_
  refine ex_st 2 (pc' := 2) (ls' := [(0, xr 104), (1, xi 2), (2, xi (↑n)), (3, xr (11 + 3 * n)), (4, xi x)]) (st' := [xr (11 + 3 * n), xr 104]) rfl ?_
  refine ex_gfi rfl (by omega) (x_so1 n (by omega)).1 (by decide) (by decide) rfl ?_
  rw [hq]
  refine ex_pfi rfl (by decide) (rfl : xSH[104]? = some _) (by decide) rfl (by decide) (fun h => by cases h) ?_
  refine ex_st 2 (pc' := 10) (ls' := [(0, xr 104), (1, xi 2), (2, xi (↑n)), (3, xr (11 + 3 * n)), (4, xi x)]) (st' := [xr (11 + 3 * n), xr 104]) rfl ?_
  refine ex_gfi rfl (by omega) (x_so1 n (by omega)).1 (by decide) (by decide) rfl ?_
  rw [x_up_far (k := 11 + 3 * n) (j := 1) (k0 := 104) (j0 := 2) (by first | decide | omega), hv]
  refine ex_pfi rfl (by decide) (rfl : xSH[104]? = some _) (by decide) rfl (by decide) (fun h => by cases h) ?_
  refine ex_st 2 (pc' := 18) (ls' := [(0, xr 104), (1, xi 2), (2, xi (↑n)), (3, xr (11 + 3 * n)), (4, xi x)]) (st' := [xi (↑n), xr 104]) rfl ?_
  refine ex_pfi rfl (by decide) (rfl : xSH[104]? = some _) (by decide) rfl (by decide) (fun h => by cases h) ?_
  refine ex_st 2 (pc' := 23) (ls' := [(0, xr 104), (1, xi 2), (2, xi (↑n)), (3, xr (11 + 3 * n)), (4, xi x)]) (st' := [xi 0, xr 104]) rfl ?_
  refine ex_pfi rfl (by decide) (rfl : xSH[104]? = some _) (by decide) rfl (by decide) (fun h => by cases h) ?_
  rw [wC_beg]
  refine ex_st 4 (pc' := 32) (ls' := [(0, xr 104), (1, xi 2), (2, xi (↑n)), (3, xr (11 + 3 * n)), (4, xi x)]) (st' := [xi ((wC (aJ I 5 v (↑n)) []) 104 2), xi 2, xr 104]) rfl ?_
  rw [wC_f (by decide), aJ_2]
  refine ex_st 2 (pc' := 35) (ls' := [(0, xr 104), (1, xi 2), (2, xi (↑n)), (3, xr (11 + 3 * n)), (4, xi x)]) (st' := [xi 0, xi x, xi 5, xi 2, xr 104]) rfl ?_
  refine ex_inl (M' := xM_A_run) (as := [xr 104, xi 2, xi 5, xi x, xi 0]) (rest := []) (D' := 18) rfl (Nat.le_of_ble_eq_true rfl) (by decide) rfl ⟨rfl, rfl, rfl⟩ ⟨Nat.le_of_ble_eq_true rfl, rfl, rfl⟩ (Nat.le_of_ble_eq_true rfl) rfl ?_
  refine ex_st 2 (pc' := 4) (ls' := [(0, xr 104), (1, xi 2), (2, xi 5), (3, xi x), (4, xi 0)]) (st' := [xi 20, xi 0]) rfl ?_
  refine ex_st 1 (pc' := 7) (ls' := [(0, xr 104), (1, xi 2), (2, xi 5), (3, xi x), (4, xi 0)]) (st' := []) rfl ?_
  refine ex_st 1 (pc' := 8) (ls' := [(0, xr 104), (1, xi 2), (2, xi 5), (3, xi x), (4, xi 0)]) (st' := [xi 5]) rfl ?_
  refine ex_call (ct_G_isKind (by decide)) (by decide) rfl ⟨rfl, rfl, rfl⟩ ⟨Nat.le_of_ble_eq_true rfl, rfl, rfl⟩ (Nat.le_of_ble_eq_true rfl) rfl ?_
  refine ex_bne rfl (fun h0 => ?_) (fun h0 => ?_)
  · refine ex_st 6 (pc' := 24) (ls' := [(0, xr 104), (1, xi 2), (2, xi 5), (3, xi x), (4, xi 0)]) (st' := [xi 17, xr 1003]) rfl ?_
    refine ex_cald (v := 60) (j := 17) rfl (by decide) rfl (by decide) (by decide) (by decide) (rfl) ?_
    refine ex_st 3 (pc' := 30) (ls' := [(5, xi 60), (0, xr 104), (1, xi 2), (2, xi 5), (3, xi x), (4, xi 0)]) (st' := [xi 60, xr 104]) rfl ?_
    refine ex_call (ct_A_note2 (b := 60) (by decide)) (by decide) rfl ⟨rfl, rfl, rfl⟩ ⟨Nat.le_of_ble_eq_true rfl, rfl, rfl⟩ (Nat.le_of_ble_eq_true rfl) rfl ?_
    refine ex_st 5 (pc' := 41) (ls' := [(6, xi 1), (5, xi 60), (0, xr 104), (1, xi 2), (2, xi 5), (3, xi x), (4, xi 0)]) (st' := [xi 60]) rfl ?_
    refine ex_st 1 (pc' := 251) (ls' := [(6, xi 1), (5, xi 60), (0, xr 104), (1, xi 2), (2, xi 5), (3, xi x), (4, xi 0)]) (st' := []) rfl ?_
    refine ex_st 6 (pc' := 259) (ls' := [(6, xi 1), (5, xi 60), (0, xr 104), (1, xi 2), (2, xi 5), (3, xi x), (4, xi 0)]) (st' := [xi ((wC (aJ I 5 v (↑n)) [60]) 104 4), xi x, xi 2, xi 2, xr 104]) rfl ?_
    rw [wC_f (by decide), aJ_4]
    refine ex_st 2 (pc' := 262) (ls' := [(6, xi 1), (5, xi 60), (0, xr 104), (1, xi 2), (2, xi 5), (3, xi x), (4, xi 0)]) (st' := [xi 1, xi (x - (↑n)), xi 2, xi 2, xr 104]) rfl ?_
    refine ex_inl (M' := xM_A_run) (as := [xr 104, xi 2, xi 2, xi (x - (↑n)), xi 1]) (rest := []) (D' := 17) rfl (Nat.le_of_ble_eq_true rfl) (by decide) rfl ⟨rfl, rfl, rfl⟩ ⟨Nat.le_of_ble_eq_true rfl, rfl, rfl⟩ (Nat.le_of_ble_eq_true rfl) rfl ?_
    refine ex_st 2 (pc' := 4) (ls' := [(0, xr 104), (1, xi 2), (2, xi 2), (3, xi (x - (↑n))), (4, xi 1)]) (st' := [xi 20, xi 1]) rfl ?_
    refine ex_st 1 (pc' := 7) (ls' := [(0, xr 104), (1, xi 2), (2, xi 2), (3, xi (x - (↑n))), (4, xi 1)]) (st' := []) rfl ?_
    refine ex_st 1 (pc' := 8) (ls' := [(0, xr 104), (1, xi 2), (2, xi 2), (3, xi (x - (↑n))), (4, xi 1)]) (st' := [xi 2]) rfl ?_
    refine ex_call (ct_G_isKind (by decide)) (by decide) rfl ⟨rfl, rfl, rfl⟩ ⟨Nat.le_of_ble_eq_true rfl, rfl, rfl⟩ (Nat.le_of_ble_eq_true rfl) rfl ?_
    refine ex_bne rfl (fun h1 => ?_) (fun h1 => ?_)
    · refine ex_st 6 (pc' := 24) (ls' := [(0, xr 104), (1, xi 2), (2, xi 2), (3, xi (x - (↑n))), (4, xi 1)]) (st' := [xi 8, xr 1003]) rfl ?_
      refine ex_cald (v := 12) (j := 8) rfl (by decide) rfl (by decide) (by decide) (by decide) (rfl) ?_
      refine ex_st 3 (pc' := 30) (ls' := [(5, xi 12), (0, xr 104), (1, xi 2), (2, xi 2), (3, xi (x - (↑n))), (4, xi 1)]) (st' := [xi 12, xr 104]) rfl ?_
      refine ex_call (ct_A_note2 (b := 12) (by decide)) (by decide) rfl ⟨rfl, rfl, rfl⟩ ⟨Nat.le_of_ble_eq_true rfl, rfl, rfl⟩ (Nat.le_of_ble_eq_true rfl) rfl ?_
      refine ex_st 5 (pc' := 41) (ls' := [(6, xi 2), (5, xi 12), (0, xr 104), (1, xi 2), (2, xi 2), (3, xi (x - (↑n))), (4, xi 1)]) (st' := [xi 12]) rfl ?_
      refine ex_st 1 (pc' := 165) (ls' := [(6, xi 2), (5, xi 12), (0, xr 104), (1, xi 2), (2, xi 2), (3, xi (x - (↑n))), (4, xi 1)]) (st' := []) rfl ?_
      refine ex_st 4 (pc' := 171) (ls' := [(6, xi 2), (5, xi 12), (0, xr 104), (1, xi 2), (2, xi 2), (3, xi (x - (↑n))), (4, xi 1)]) (st' := [xi ((wC (aJ I 5 v (↑n)) [60, 12]) 104 2), xi 1, xr 104]) rfl ?_
      rw [wC_f (by decide), aJ_2]
      refine ex_st 2 (pc' := 174) (ls' := [(6, xi 2), (5, xi 12), (0, xr 104), (1, xi 2), (2, xi 2), (3, xi (x - (↑n))), (4, xi 1)]) (st' := [xi 2, xi (x - (↑n)), xi 5, xi 1, xr 104]) rfl ?_
      refine ex_inl (M' := xM_A_run) (as := [xr 104, xi 1, xi 5, xi (x - (↑n)), xi 2]) (rest := []) (D' := 16) rfl (Nat.le_of_ble_eq_true rfl) (by decide) rfl ⟨rfl, rfl, rfl⟩ ⟨Nat.le_of_ble_eq_true rfl, rfl, rfl⟩ (Nat.le_of_ble_eq_true rfl) rfl ?_
      refine ex_st 2 (pc' := 4) (ls' := [(0, xr 104), (1, xi 1), (2, xi 5), (3, xi (x - (↑n))), (4, xi 2)]) (st' := [xi 20, xi 2]) rfl ?_
      refine ex_st 1 (pc' := 7) (ls' := [(0, xr 104), (1, xi 1), (2, xi 5), (3, xi (x - (↑n))), (4, xi 2)]) (st' := []) rfl ?_
      refine ex_st 1 (pc' := 8) (ls' := [(0, xr 104), (1, xi 1), (2, xi 5), (3, xi (x - (↑n))), (4, xi 2)]) (st' := [xi 5]) rfl ?_
      refine ex_call (ct_G_isKind (by decide)) (by decide) rfl ⟨rfl, rfl, rfl⟩ ⟨Nat.le_of_ble_eq_true rfl, rfl, rfl⟩ (Nat.le_of_ble_eq_true rfl) rfl ?_
      refine ex_bne rfl (fun h2 => ?_) (fun h2 => ?_)
      · refine ex_st 6 (pc' := 24) (ls' := [(0, xr 104), (1, xi 1), (2, xi 5), (3, xi (x - (↑n))), (4, xi 2)]) (st' := [xi 16, xr 1003]) rfl ?_
        refine ex_cald (v := 11) (j := 16) rfl (by decide) rfl (by decide) (by decide) (by decide) (rfl) ?_
        refine ex_st 3 (pc' := 30) (ls' := [(5, xi 11), (0, xr 104), (1, xi 1), (2, xi 5), (3, xi (x - (↑n))), (4, xi 2)]) (st' := [xi 11, xr 104]) rfl ?_
        refine ex_call (ct_A_note2 (b := 11) (by decide)) (by decide) rfl ⟨rfl, rfl, rfl⟩ ⟨Nat.le_of_ble_eq_true rfl, rfl, rfl⟩ (Nat.le_of_ble_eq_true rfl) rfl ?_
        refine ex_st 5 (pc' := 41) (ls' := [(6, xi 3), (5, xi 11), (0, xr 104), (1, xi 1), (2, xi 5), (3, xi (x - (↑n))), (4, xi 2)]) (st' := [xi 11]) rfl ?_
        refine ex_st 1 (pc' := 147) (ls' := [(6, xi 3), (5, xi 11), (0, xr 104), (1, xi 1), (2, xi 5), (3, xi (x - (↑n))), (4, xi 2)]) (st' := []) rfl ?_
        refine ex_st 4 (pc' := 153) (ls' := [(6, xi 3), (5, xi 11), (0, xr 104), (1, xi 1), (2, xi 5), (3, xi (x - (↑n))), (4, xi 2)]) (st' := [xi ((wC (aJ I 5 v (↑n)) [60, 12, 11]) 104 2), xi 0, xr 104]) rfl ?_
        rw [wC_f (by decide), aJ_2]
        refine ex_st 2 (pc' := 156) (ls' := [(6, xi 3), (5, xi 11), (0, xr 104), (1, xi 1), (2, xi 5), (3, xi (x - (↑n))), (4, xi 2)]) (st' := [xi 3, xi (x - (↑n)), xi 5, xi 0, xr 104]) rfl ?_
        refine ex_inl (M' := xM_A_run) (as := [xr 104, xi 0, xi 5, xi (x - (↑n)), xi 3]) (rest := []) (D' := 15) rfl (Nat.le_of_ble_eq_true rfl) (by decide) rfl ⟨rfl, rfl, rfl⟩ ⟨Nat.le_of_ble_eq_true rfl, rfl, rfl⟩ (Nat.le_of_ble_eq_true rfl) rfl ?_
        refine ex_st 2 (pc' := 4) (ls' := [(0, xr 104), (1, xi 0), (2, xi 5), (3, xi (x - (↑n))), (4, xi 3)]) (st' := [xi 20, xi 3]) rfl ?_
        refine ex_st 1 (pc' := 7) (ls' := [(0, xr 104), (1, xi 0), (2, xi 5), (3, xi (x - (↑n))), (4, xi 3)]) (st' := []) rfl ?_
        refine ex_st 1 (pc' := 8) (ls' := [(0, xr 104), (1, xi 0), (2, xi 5), (3, xi (x - (↑n))), (4, xi 3)]) (st' := [xi 5]) rfl ?_
        refine ex_call (ct_G_isKind (by decide)) (by decide) rfl ⟨rfl, rfl, rfl⟩ ⟨Nat.le_of_ble_eq_true rfl, rfl, rfl⟩ (Nat.le_of_ble_eq_true rfl) rfl ?_
        refine ex_bne rfl (fun h3 => ?_) (fun h3 => ?_)
        · refine ex_st 6 (pc' := 24) (ls' := [(0, xr 104), (1, xi 0), (2, xi 5), (3, xi (x - (↑n))), (4, xi 3)]) (st' := [xi 15, xr 1003]) rfl ?_
          refine ex_cald (v := 30) (j := 15) rfl (by decide) rfl (by decide) (by decide) (by decide) (rfl) ?_
          refine ex_st 3 (pc' := 30) (ls' := [(5, xi 30), (0, xr 104), (1, xi 0), (2, xi 5), (3, xi (x - (↑n))), (4, xi 3)]) (st' := [xi 30, xr 104]) rfl ?_
          refine ex_call (ct_A_note2 (b := 30) (by decide)) (by decide) rfl ⟨rfl, rfl, rfl⟩ ⟨Nat.le_of_ble_eq_true rfl, rfl, rfl⟩ (Nat.le_of_ble_eq_true rfl) rfl ?_
          refine ex_st 5 (pc' := 41) (ls' := [(6, xi 4), (5, xi 30), (0, xr 104), (1, xi 0), (2, xi 5), (3, xi (x - (↑n))), (4, xi 3)]) (st' := [xi 30]) rfl ?_
          refine ex_st 1 (pc' := 193) (ls' := [(6, xi 4), (5, xi 30), (0, xr 104), (1, xi 0), (2, xi 5), (3, xi (x - (↑n))), (4, xi 3)]) (st' := []) rfl ?_
          refine ex_st 7 (pc' := 201) (ls' := [(6, xi 4), (5, xi 30), (0, xr 104), (1, xi 0), (2, xi 5), (3, xi (x - (↑n))), (4, xi 3)]) (st' := [xi 4, xi ((x - (↑n)) * 3), xi 0, xi 0, xr 104]) rfl ?_
          refine ex_inl (M' := xM_A_run) (as := [xr 104, xi 0, xi 0, xi ((x - (↑n)) * 3), xi 4]) (rest := []) (D' := 14) rfl (Nat.le_of_ble_eq_true rfl) (by decide) rfl ⟨rfl, rfl, rfl⟩ ⟨Nat.le_of_ble_eq_true rfl, rfl, rfl⟩ (Nat.le_of_ble_eq_true rfl) rfl ?_
          refine ex_st 2 (pc' := 4) (ls' := [(0, xr 104), (1, xi 0), (2, xi 0), (3, xi ((x - (↑n)) * 3)), (4, xi 4)]) (st' := [xi 20, xi 4]) rfl ?_
          refine ex_st 1 (pc' := 7) (ls' := [(0, xr 104), (1, xi 0), (2, xi 0), (3, xi ((x - (↑n)) * 3)), (4, xi 4)]) (st' := []) rfl ?_
          refine ex_st 1 (pc' := 8) (ls' := [(0, xr 104), (1, xi 0), (2, xi 0), (3, xi ((x - (↑n)) * 3)), (4, xi 4)]) (st' := [xi 0]) rfl ?_
          refine ex_call (ct_G_isKind (by decide)) (by decide) rfl ⟨rfl, rfl, rfl⟩ ⟨Nat.le_of_ble_eq_true rfl, rfl, rfl⟩ (Nat.le_of_ble_eq_true rfl) rfl ?_
          refine ex_bne rfl (fun h4 => ?_) (fun h4 => ?_)
          · refine ex_st 6 (pc' := 24) (ls' := [(0, xr 104), (1, xi 0), (2, xi 0), (3, xi ((x - (↑n)) * 3)), (4, xi 4)]) (st' := [xi 0, xr 1003]) rfl ?_
            refine ex_cald (v := 10) (j := 0) rfl (by decide) rfl (by decide) (by decide) (by decide) (rfl) ?_
            refine ex_st 3 (pc' := 30) (ls' := [(5, xi 10), (0, xr 104), (1, xi 0), (2, xi 0), (3, xi ((x - (↑n)) * 3)), (4, xi 4)]) (st' := [xi 10, xr 104]) rfl ?_
            refine ex_call (ct_A_note2 (b := 10) (by decide)) (by decide) rfl ⟨rfl, rfl, rfl⟩ ⟨Nat.le_of_ble_eq_true rfl, rfl, rfl⟩ (Nat.le_of_ble_eq_true rfl) rfl ?_
            refine ex_st 5 (pc' := 41) (ls' := [(6, xi 5), (5, xi 10), (0, xr 104), (1, xi 0), (2, xi 0), (3, xi ((x - (↑n)) * 3)), (4, xi 4)]) (st' := [xi 10]) rfl ?_
            refine ex_st 1 (pc' := 140) (ls' := [(6, xi 5), (5, xi 10), (0, xr 104), (1, xi 0), (2, xi 0), (3, xi ((x - (↑n)) * 3)), (4, xi 4)]) (st' := []) rfl ?_
            refine ex_st 3 (pc' := 145) (ls' := [(6, xi 5), (5, xi 10), (0, xr 104), (1, xi 0), (2, xi 0), (3, xi ((x - (↑n)) * 3)), (4, xi 4)]) (st' := [xi ((wC (aJ I 5 v (↑n)) [60, 12, 11, 30, 10]) 104 4), xi ((x - (↑n)) * 3)]) rfl ?_
            rw [wC_f (by decide), aJ_4]
            refine ex_st 1 (pc' := 146) (ls' := [(6, xi 5), (5, xi 10), (0, xr 104), (1, xi 0), (2, xi 0), (3, xi ((x - (↑n)) * 3)), (4, xi 4)]) (st' := [xi (((x - (↑n)) * 3) + (↑n))]) rfl ?_
            refine ex_reti rfl rfl ?_
            refine ex_reti rfl rfl ?_
            refine ex_st 2 (pc' := 163) (ls' := [(6, xi 3), (5, xi 11), (0, xr 104), (1, xi 1), (2, xi 5), (3, xi (x - (↑n))), (4, xi 2)]) (st' := [xi ((wC (aJ I 5 v (↑n)) [60, 12, 11, 30, 10]) 104 3), xi (((x - (↑n)) * 3) + (↑n))]) rfl ?_
            rw [wC_f (by decide), aJ_3]
            refine ex_st 1 (pc' := 164) (ls' := [(6, xi 3), (5, xi 11), (0, xr 104), (1, xi 1), (2, xi 5), (3, xi (x - (↑n))), (4, xi 2)]) (st' := [xi ((((x - (↑n)) * 3) + (↑n)) - v)]) rfl ?_
            refine ex_reti rfl rfl ?_
            refine ex_st 2 (pc' := 179) (ls' := [(6, xi 2), (5, xi 12), (0, xr 104), (1, xi 2), (2, xi 2), (3, xi (x - (↑n))), (4, xi 1)]) (st' := [xi (((((x - (↑n)) * 3) + (↑n)) - v) * 2)]) rfl ?_
            refine ex_reti rfl rfl ?_
            refine ex_reti rfl rfl ?_
            refine ex_reti rfl rfl ?_
            exact ⟨rfl, rfl⟩
          · exfalso; omega
        · exfalso; omega
      · exfalso; omega
    · exfalso; omega
  · exfalso; omega
set_option maxRecDepth 8000 in
set_option maxHeartbeats 2000000 in
theorem ct_A_begin_6_0 {sc : List Int} {I : Nat → Nat → Int} {L : Nat → Nat → Int64} {n : Nat} {x v : Int} (hn : n < 6) (hq : I (11 + 3 * n) 0 = 6) (hv : I (11 + 3 * n) 1 = v) : x_CE sc 20 xN_A_begin [xr 104, xi 0, xi (↑n), xr (11 + 3 * n), xi x] (xSH, I, L) (some (xi ((z_xor (x + (↑n)) v)))) (xSH, wC (aJ I 6 v (↑n)) [71, 10], L) := by
  refine x_CE.of (M := xM_A_begin) rfl (Nat.le_of_ble_eq_true rfl) ?_
  refine ex_st 2 (pc' := 2) (ls' := [(0, xr 104), (1, xi 0), (2, xi (↑n)), (3, xr (11 + 3 * n)), (4, xi x)]) (st' := [xr (11 + 3 * n), xr 104]) rfl ?_
  refine ex_gfi rfl (by omega) (x_so1 n (by omega)).1 (by decide) (by decide) rfl ?_
  rw [hq]
  refine ex_pfi rfl (by decide) (rfl : xSH[104]? = some _) (by decide) rfl (by decide) (fun h => by cases h) ?_
  refine ex_st 2 (pc' := 10) (ls' := [(0, xr 104), (1, xi 0), (2, xi (↑n)), (3, xr (11 + 3 * n)), (4, xi x)]) (st' := [xr (11 + 3 * n), xr 104]) rfl ?_
  refine ex_gfi rfl (by omega) (x_so1 n (by omega)).1 (by decide) (by decide) rfl ?_
  rw [x_up_far (k := 11 + 3 * n) (j := 1) (k0 := 104) (j0 := 2) (by first | decide | omega), hv]
  refine ex_pfi rfl (by decide) (rfl : xSH[104]? = some _) (by decide) rfl (by decide) (fun h => by cases h) ?_
  refine ex_st 2 (pc' := 18) (ls' := [(0, xr 104), (1, xi 0), (2, xi (↑n)), (3, xr (11 + 3 * n)), (4, xi x)]) (st' := [xi (↑n), xr 104]) rfl ?_
  refine ex_pfi rfl (by decide) (rfl : xSH[104]? = some _) (by decide) rfl (by decide) (fun h => by cases h) ?_
  refine ex_st 2 (pc' := 23) (ls' := [(0, xr 104), (1, xi 0), (2, xi (↑n)), (3, xr (11 + 3 * n)), (4, xi x)]) (st' := [xi 0, xr 104]) rfl ?_
  refine ex_pfi rfl (by decide) (rfl : xSH[104]? = some _) (by decide) rfl (by decide) (fun h => by cases h) ?_
  rw [wC_beg]
  refine ex_st 4 (pc' := 32) (ls' := [(0, xr 104), (1, xi 0), (2, xi (↑n)), (3, xr (11 + 3 * n)), (4, xi x)]) (st' := [xi ((wC (aJ I 6 v (↑n)) []) 104 2), xi 0, xr 104]) rfl ?_
  rw [wC_f (by decide), aJ_2]
  refine ex_st 2 (pc' := 35) (ls' := [(0, xr 104), (1, xi 0), (2, xi (↑n)), (3, xr (11 + 3 * n)), (4, xi x)]) (st' := [xi 0, xi x, xi 6, xi 0, xr 104]) rfl ?_
  refine ex_inl (M' := xM_A_run) (as := [xr 104, xi 0, xi 6, xi x, xi 0]) (rest := []) (D' := 18) rfl (Nat.le_of_ble_eq_true rfl) (by decide) rfl ⟨rfl, rfl, rfl⟩ ⟨Nat.le_of_ble_eq_true rfl, rfl, rfl⟩ (Nat.le_of_ble_eq_true rfl) rfl ?_
  refine ex_st 2 (pc' := 4) (ls' := [(0, xr 104), (1, xi 0), (2, xi 6), (3, xi x), (4, xi 0)]) (st' := [xi 20, xi 0]) rfl ?_
  refine ex_st 1 (pc' := 7) (ls' := [(0, xr 104), (1, xi 0), (2, xi 6), (3, xi x), (4, xi 0)]) (st' := []) rfl ?_
  refine ex_st 1 (pc' := 8) (ls' := [(0, xr 104), (1, xi 0), (2, xi 6), (3, xi x), (4, xi 0)]) (st' := [xi 6]) rfl ?_
  refine ex_call (ct_G_isKind (by decide)) (by decide) rfl ⟨rfl, rfl, rfl⟩ ⟨Nat.le_of_ble_eq_true rfl, rfl, rfl⟩ (Nat.le_of_ble_eq_true rfl) rfl ?_
  refine ex_bne rfl (fun h0 => ?_) (fun h0 => ?_)
  · refine ex_st 6 (pc' := 24) (ls' := [(0, xr 104), (1, xi 0), (2, xi 6), (3, xi x), (4, xi 0)]) (st' := [xi 18, xr 1003]) rfl ?_
    refine ex_cald (v := 71) (j := 18) rfl (by decide) rfl (by decide) (by decide) (by decide) (rfl) ?_
    refine ex_st 3 (pc' := 30) (ls' := [(5, xi 71), (0, xr 104), (1, xi 0), (2, xi 6), (3, xi x), (4, xi 0)]) (st' := [xi 71, xr 104]) rfl ?_
    refine ex_call (ct_A_note2 (b := 71) (by decide)) (by decide) rfl ⟨rfl, rfl, rfl⟩ ⟨Nat.le_of_ble_eq_true rfl, rfl, rfl⟩ (Nat.le_of_ble_eq_true rfl) rfl ?_
    refine ex_st 5 (pc' := 41) (ls' := [(6, xi 1), (5, xi 71), (0, xr 104), (1, xi 0), (2, xi 6), (3, xi x), (4, xi 0)]) (st' := [xi 71]) rfl ?_
    refine ex_st 1 (pc' := 286) (ls' := [(6, xi 1), (5, xi 71), (0, xr 104), (1, xi 0), (2, xi 6), (3, xi x), (4, xi 0)]) (st' := []) rfl ?_
    refine ex_st 5 (pc' := 292) (ls' := [(6, xi 1), (5, xi 71), (0, xr 104), (1, xi 0), (2, xi 6), (3, xi x), (4, xi 0)]) (st' := [xi 1, xi x, xi 3, xi 0, xr 104]) rfl ?_
    refine ex_inl (M' := xM_A_run) (as := [xr 104, xi 0, xi 3, xi x, xi 1]) (rest := []) (D' := 17) rfl (Nat.le_of_ble_eq_true rfl) (by decide) rfl ⟨rfl, rfl, rfl⟩ ⟨Nat.le_of_ble_eq_true rfl, rfl, rfl⟩ (Nat.le_of_ble_eq_true rfl) rfl ?_
    refine ex_st 2 (pc' := 4) (ls' := [(0, xr 104), (1, xi 0), (2, xi 3), (3, xi x), (4, xi 1)]) (st' := [xi 20, xi 1]) rfl ?_
    refine ex_st 1 (pc' := 7) (ls' := [(0, xr 104), (1, xi 0), (2, xi 3), (3, xi x), (4, xi 1)]) (st' := []) rfl ?_
    refine ex_st 1 (pc' := 8) (ls' := [(0, xr 104), (1, xi 0), (2, xi 3), (3, xi x), (4, xi 1)]) (st' := [xi 3]) rfl ?_
    refine ex_call (ct_G_isKind (by decide)) (by decide) rfl ⟨rfl, rfl, rfl⟩ ⟨Nat.le_of_ble_eq_true rfl, rfl, rfl⟩ (Nat.le_of_ble_eq_true rfl) rfl ?_
    refine ex_bne rfl (fun h1 => ?_) (fun h1 => ?_)
    · refine ex_st 6 (pc' := 24) (ls' := [(0, xr 104), (1, xi 0), (2, xi 3), (3, xi x), (4, xi 1)]) (st' := [xi 9, xr 1003]) rfl ?_
      refine ex_cald (v := 10) (j := 9) rfl (by decide) rfl (by decide) (by decide) (by decide) (rfl) ?_
      refine ex_st 3 (pc' := 30) (ls' := [(5, xi 10), (0, xr 104), (1, xi 0), (2, xi 3), (3, xi x), (4, xi 1)]) (st' := [xi 10, xr 104]) rfl ?_
      refine ex_call (ct_A_note2 (b := 10) (by decide)) (by decide) rfl ⟨rfl, rfl, rfl⟩ ⟨Nat.le_of_ble_eq_true rfl, rfl, rfl⟩ (Nat.le_of_ble_eq_true rfl) rfl ?_
      refine ex_st 5 (pc' := 41) (ls' := [(6, xi 2), (5, xi 10), (0, xr 104), (1, xi 0), (2, xi 3), (3, xi x), (4, xi 1)]) (st' := [xi 10]) rfl ?_
      refine ex_st 1 (pc' := 140) (ls' := [(6, xi 2), (5, xi 10), (0, xr 104), (1, xi 0), (2, xi 3), (3, xi x), (4, xi 1)]) (st' := []) rfl ?_
      refine ex_st 3 (pc' := 145) (ls' := [(6, xi 2), (5, xi 10), (0, xr 104), (1, xi 0), (2, xi 3), (3, xi x), (4, xi 1)]) (st' := [xi ((wC (aJ I 6 v (↑n)) [71, 10]) 104 4), xi x]) rfl ?_
      rw [wC_f (by decide), aJ_4]
      refine ex_st 1 (pc' := 146) (ls' := [(6, xi 2), (5, xi 10), (0, xr 104), (1, xi 0), (2, xi 3), (3, xi x), (4, xi 1)]) (st' := [xi (x + (↑n))]) rfl ?_
      refine ex_reti rfl rfl ?_
      refine ex_st 2 (pc' := 299) (ls' := [(6, xi 1), (5, xi 71), (0, xr 104), (1, xi 0), (2, xi 6), (3, xi x), (4, xi 0)]) (st' := [xi ((wC (aJ I 6 v (↑n)) [71, 10]) 104 3), xi (x + (↑n))]) rfl ?_
      rw [wC_f (by decide), aJ_3]
      refine ex_ixor rfl ?_
      generalize hzx1 : z_xor (x + (↑n)) v = zx1
      refine ex_reti rfl rfl ?_
      refine ex_reti rfl rfl ?_
      subst hzx1
      exact ⟨rfl, rfl⟩
    · exfalso; omega
  · exfalso; omega
set_option maxRecDepth 8000 in
set_option maxHeartbeats 2000000 in
theorem ct_A_begin_6_1 {sc : List Int} {I : Nat → Nat → Int} {L : Nat → Nat → Int64} {n : Nat} {x v : Int} (hn : n < 6) (hq : I (11 + 3 * n) 0 = 6) (hv : I (11 + 3 * n) 1 = v) : x_CE sc 20 xN_A_begin [xr 104, xi 1, xi (↑n), xr (11 + 3 * n), xi x] (xSH, I, L) (some (xi (((z_xor (x + (↑n)) v) - v) + (2 + (↑n))))) (xSH, wC (aJ I 6 v (↑n)) [70, 11, 71, 10, 10], L) := by
  refine x_CE.of (M := xM_A_begin) rfl (Nat.le_of_ble_eq_true rfl) ?_
  refine ex_st 2 (pc' := 2) (ls' := [(0, xr 104), (1, xi 1), (2, xi (↑n)), (3, xr (11 + 3 * n)), (4, xi x)]) (st' := [xr (11 + 3 * n), xr 104]) rfl ?_
  refine ex_gfi rfl (by omega) (x_so1 n (by omega)).1 (by decide) (by decide) rfl ?_
  rw [hq]
  refine ex_pfi rfl (by decide) (rfl : xSH[104]? = some _) (by decide) rfl (by decide) (fun h => by cases h) ?_
  refine ex_st 2 (pc' := 10) (ls' := [(0, xr 104), (1, xi 1), (2, xi (↑n)), (3, xr (11 + 3 * n)), (4, xi x)]) (st' := [xr (11 + 3 * n), xr 104]) rfl ?_
  refine ex_gfi rfl (by omega) (x_so1 n (by omega)).1 (by decide) (by decide) rfl ?_
  rw [x_up_far (k := 11 + 3 * n) (j := 1) (k0 := 104) (j0 := 2) (by first | decide | omega), hv]
  refine ex_pfi rfl (by decide) (rfl : xSH[104]? = some _) (by decide) rfl (by decide) (fun h => by cases h) ?_
  refine ex_st 2 (pc' := 18) (ls' := [(0, xr 104), (1, xi 1), (2, xi (↑n)), (3, xr (11 + 3 * n)), (4, xi x)]) (st' := [xi (↑n), xr 104]) rfl ?_
  refine ex_pfi rfl (by decide) (rfl : xSH[104]? = some _) (by decide) rfl (by decide) (fun h => by cases h) ?_
  refine ex_st 2 (pc' := 23) (ls' := [(0, xr 104), (1, xi 1), (2, xi (↑n)), (3, xr (11 + 3 * n)), (4, xi x)]) (st' := [xi 0, xr 104]) rfl ?_
  refine ex_pfi rfl (by decide) (rfl : xSH[104]? = some _) (by decide) rfl (by decide) (fun h => by cases h) ?_
  rw [wC_beg]
  refine ex_st 4 (pc' := 32) (ls' := [(0, xr 104), (1, xi 1), (2, xi (↑n)), (3, xr (11 + 3 * n)), (4, xi x)]) (st' := [xi ((wC (aJ I 6 v (↑n)) []) 104 2), xi 1, xr 104]) rfl ?_
  rw [wC_f (by decide), aJ_2]
  refine ex_st 2 (pc' := 35) (ls' := [(0, xr 104), (1, xi 1), (2, xi (↑n)), (3, xr (11 + 3 * n)), (4, xi x)]) (st' := [xi 0, xi x, xi 6, xi 1, xr 104]) rfl ?_
  refine ex_inl (M' := xM_A_run) (as := [xr 104, xi 1, xi 6, xi x, xi 0]) (rest := []) (D' := 18) rfl (Nat.le_of_ble_eq_true rfl) (by decide) rfl ⟨rfl, rfl, rfl⟩ ⟨Nat.le_of_ble_eq_true rfl, rfl, rfl⟩ (Nat.le_of_ble_eq_true rfl) rfl ?_
  refine ex_st 2 (pc' := 4) (ls' := [(0, xr 104), (1, xi 1), (2, xi 6), (3, xi x), (4, xi 0)]) (st' := [xi 20, xi 0]) rfl ?_
  refine ex_st 1 (pc' := 7) (ls' := [(0, xr 104), (1, xi 1), (2, xi 6), (3, xi x), (4, xi 0)]) (st' := []) rfl ?_
  refine ex_st 1 (pc' := 8) (ls' := [(0, xr 104), (1, xi 1), (2, xi 6), (3, xi x), (4, xi 0)]) (st' := [xi 6]) rfl ?_
  refine ex_call (ct_G_isKind (by decide)) (by decide) rfl ⟨rfl, rfl, rfl⟩ ⟨Nat.le_of_ble_eq_true rfl, rfl, rfl⟩ (Nat.le_of_ble_eq_true rfl) rfl ?_
  refine ex_bne rfl (fun h0 => ?_) (fun h0 => ?_)
  · refine ex_st 6 (pc' := 24) (ls' := [(0, xr 104), (1, xi 1), (2, xi 6), (3, xi x), (4, xi 0)]) (st' := [xi 19, xr 1003]) rfl ?_
    refine ex_cald (v := 70) (j := 19) rfl (by decide) rfl (by decide) (by decide) (by decide) (rfl) ?_
    refine ex_st 3 (pc' := 30) (ls' := [(5, xi 70), (0, xr 104), (1, xi 1), (2, xi 6), (3, xi x), (4, xi 0)]) (st' := [xi 70, xr 104]) rfl ?_
    refine ex_call (ct_A_note2 (b := 70) (by decide)) (by decide) rfl ⟨rfl, rfl, rfl⟩ ⟨Nat.le_of_ble_eq_true rfl, rfl, rfl⟩ (Nat.le_of_ble_eq_true rfl) rfl ?_
    refine ex_st 5 (pc' := 41) (ls' := [(6, xi 1), (5, xi 70), (0, xr 104), (1, xi 1), (2, xi 6), (3, xi x), (4, xi 0)]) (st' := [xi 70]) rfl ?_
    refine ex_st 1 (pc' := 266) (ls' := [(6, xi 1), (5, xi 70), (0, xr 104), (1, xi 1), (2, xi 6), (3, xi x), (4, xi 0)]) (st' := []) rfl ?_
    refine ex_st 5 (pc' := 272) (ls' := [(6, xi 1), (5, xi 70), (0, xr 104), (1, xi 1), (2, xi 6), (3, xi x), (4, xi 0)]) (st' := [xi 1, xi x, xi 3, xi 1, xr 104]) rfl ?_
    refine ex_inl (M' := xM_A_run) (as := [xr 104, xi 1, xi 3, xi x, xi 1]) (rest := []) (D' := 17) rfl (Nat.le_of_ble_eq_true rfl) (by decide) rfl ⟨rfl, rfl, rfl⟩ ⟨Nat.le_of_ble_eq_true rfl, rfl, rfl⟩ (Nat.le_of_ble_eq_true rfl) rfl ?_
    refine ex_st 2 (pc' := 4) (ls' := [(0, xr 104), (1, xi 1), (2, xi 3), (3, xi x), (4, xi 1)]) (st' := [xi 20, xi 1]) rfl ?_
    refine ex_st 1 (pc' := 7) (ls' := [(0, xr 104), (1, xi 1), (2, xi 3), (3, xi x), (4, xi 1)]) (st' := []) rfl ?_
    refine ex_st 1 (pc' := 8) (ls' := [(0, xr 104), (1, xi 1), (2, xi 3), (3, xi x), (4, xi 1)]) (st' := [xi 3]) rfl ?_
    refine ex_call (ct_G_isKind (by decide)) (by decide) rfl ⟨rfl, rfl, rfl⟩ ⟨Nat.le_of_ble_eq_true rfl, rfl, rfl⟩ (Nat.le_of_ble_eq_true rfl) rfl ?_
    refine ex_bne rfl (fun h1 => ?_) (fun h1 => ?_)
    · refine ex_st 6 (pc' := 24) (ls' := [(0, xr 104), (1, xi 1), (2, xi 3), (3, xi x), (4, xi 1)]) (st' := [xi 10, xr 1003]) rfl ?_
      refine ex_cald (v := 11) (j := 10) rfl (by decide) rfl (by decide) (by decide) (by decide) (rfl) ?_
      refine ex_st 3 (pc' := 30) (ls' := [(5, xi 11), (0, xr 104), (1, xi 1), (2, xi 3), (3, xi x), (4, xi 1)]) (st' := [xi 11, xr 104]) rfl ?_
      refine ex_call (ct_A_note2 (b := 11) (by decide)) (by decide) rfl ⟨rfl, rfl, rfl⟩ ⟨Nat.le_of_ble_eq_true rfl, rfl, rfl⟩ (Nat.le_of_ble_eq_true rfl) rfl ?_
      refine ex_st 5 (pc' := 41) (ls' := [(6, xi 2), (5, xi 11), (0, xr 104), (1, xi 1), (2, xi 3), (3, xi x), (4, xi 1)]) (st' := [xi 11]) rfl ?_
      refine ex_st 1 (pc' := 147) (ls' := [(6, xi 2), (5, xi 11), (0, xr 104), (1, xi 1), (2, xi 3), (3, xi x), (4, xi 1)]) (st' := []) rfl ?_
      refine ex_st 4 (pc' := 153) (ls' := [(6, xi 2), (5, xi 11), (0, xr 104), (1, xi 1), (2, xi 3), (3, xi x), (4, xi 1)]) (st' := [xi ((wC (aJ I 6 v (↑n)) [70, 11]) 104 2), xi 0, xr 104]) rfl ?_
      rw [wC_f (by decide), aJ_2]
      refine ex_st 2 (pc' := 156) (ls' := [(6, xi 2), (5, xi 11), (0, xr 104), (1, xi 1), (2, xi 3), (3, xi x), (4, xi 1)]) (st' := [xi 2, xi x, xi 6, xi 0, xr 104]) rfl ?_
      refine ex_inl (M' := xM_A_run) (as := [xr 104, xi 0, xi 6, xi x, xi 2]) (rest := []) (D' := 16) rfl (Nat.le_of_ble_eq_true rfl) (by decide) rfl ⟨rfl, rfl, rfl⟩ ⟨Nat.le_of_ble_eq_true rfl, rfl, rfl⟩ (Nat.le_of_ble_eq_true rfl) rfl ?_
      refine ex_st 2 (pc' := 4) (ls' := [(0, xr 104), (1, xi 0), (2, xi 6), (3, xi x), (4, xi 2)]) (st' := [xi 20, xi 2]) rfl ?_
      refine ex_st 1 (pc' := 7) (ls' := [(0, xr 104), (1, xi 0), (2, xi 6), (3, xi x), (4, xi 2)]) (st' := []) rfl ?_
      refine ex_st 1 (pc' := 8) (ls' := [(0, xr 104), (1, xi 0), (2, xi 6), (3, xi x), (4, xi 2)]) (st' := [xi 6]) rfl ?_
      refine ex_call (ct_G_isKind (by decide)) (by decide) rfl ⟨rfl, rfl, rfl⟩ ⟨Nat.le_of_ble_eq_true rfl, rfl, rfl⟩ (Nat.le_of_ble_eq_true rfl) rfl ?_
      refine ex_bne rfl (fun h2 => ?_) (fun h2 => ?_)
      · refine ex_st 6 (pc' := 24) (ls' := [(0, xr 104), (1, xi 0), (2, xi 6), (3, xi x), (4, xi 2)]) (st' := [xi 18, xr 1003]) rfl ?_
        refine ex_cald (v := 71) (j := 18) rfl (by decide) rfl (by decide) (by decide) (by decide) (rfl) ?_
        refine ex_st 3 (pc' := 30) (ls' := [(5, xi 71), (0, xr 104), (1, xi 0), (2, xi 6), (3, xi x), (4, xi 2)]) (st' := [xi 71, xr 104]) rfl ?_
        refine ex_call (ct_A_note2 (b := 71) (by decide)) (by decide) rfl ⟨rfl, rfl, rfl⟩ ⟨Nat.le_of_ble_eq_true rfl, rfl, rfl⟩ (Nat.le_of_ble_eq_true rfl) rfl ?_
        refine ex_st 5 (pc' := 41) (ls' := [(6, xi 3), (5, xi 71), (0, xr 104), (1, xi 0), (2, xi 6), (3, xi x), (4, xi 2)]) (st' := [xi 71]) rfl ?_
        refine ex_st 1 (pc' := 286) (ls' := [(6, xi 3), (5, xi 71), (0, xr 104), (1, xi 0), (2, xi 6), (3, xi x), (4, xi 2)]) (st' := []) rfl ?_
        refine ex_st 5 (pc' := 292) (ls' := [(6, xi 3), (5, xi 71), (0, xr 104), (1, xi 0), (2, xi 6), (3, xi x), (4, xi 2)]) (st' := [xi 3, xi x, xi 3, xi 0, xr 104]) rfl ?_
        refine ex_inl (M' := xM_A_run) (as := [xr 104, xi 0, xi 3, xi x, xi 3]) (rest := []) (D' := 15) rfl (Nat.le_of_ble_eq_true rfl) (by decide) rfl ⟨rfl, rfl, rfl⟩ ⟨Nat.le_of_ble_eq_true rfl, rfl, rfl⟩ (Nat.le_of_ble_eq_true rfl) rfl ?_
        refine ex_st 2 (pc' := 4) (ls' := [(0, xr 104), (1, xi 0), (2, xi 3), (3, xi x), (4, xi 3)]) (st' := [xi 20, xi 3]) rfl ?_
        refine ex_st 1 (pc' := 7) (ls' := [(0, xr 104), (1, xi 0), (2, xi 3), (3, xi x), (4, xi 3)]) (st' := []) rfl ?_
        refine ex_st 1 (pc' := 8) (ls' := [(0, xr 104), (1, xi 0), (2, xi 3), (3, xi x), (4, xi 3)]) (st' := [xi 3]) rfl ?_
        refine ex_call (ct_G_isKind (by decide)) (by decide) rfl ⟨rfl, rfl, rfl⟩ ⟨Nat.le_of_ble_eq_true rfl, rfl, rfl⟩ (Nat.le_of_ble_eq_true rfl) rfl ?_
        refine ex_bne rfl (fun h3 => ?_) (fun h3 => ?_)
        · refine ex_st 6 (pc' := 24) (ls' := [(0, xr 104), (1, xi 0), (2, xi 3), (3, xi x), (4, xi 3)]) (st' := [xi 9, xr 1003]) rfl ?_
          refine ex_cald (v := 10) (j := 9) rfl (by decide) rfl (by decide) (by decide) (by decide) (rfl) ?_
          refine ex_st 3 (pc' := 30) (ls' := [(5, xi 10), (0, xr 104), (1, xi 0), (2, xi 3), (3, xi x), (4, xi 3)]) (st' := [xi 10, xr 104]) rfl ?_
          refine ex_call (ct_A_note2 (b := 10) (by decide)) (by decide) rfl ⟨rfl, rfl, rfl⟩ ⟨Nat.le_of_ble_eq_true rfl, rfl, rfl⟩ (Nat.le_of_ble_eq_true rfl) rfl ?_
          refine ex_st 5 (pc' := 41) (ls' := [(6, xi 4), (5, xi 10), (0, xr 104), (1, xi 0), (2, xi 3), (3, xi x), (4, xi 3)]) (st' := [xi 10]) rfl ?_
          refine ex_st 1 (pc' := 140) (ls' := [(6, xi 4), (5, xi 10), (0, xr 104), (1, xi 0), (2, xi 3), (3, xi x), (4, xi 3)]) (st' := []) rfl ?_
          refine ex_st 3 (pc' := 145) (ls' := [(6, xi 4), (5, xi 10), (0, xr 104), (1, xi 0), (2, xi 3), (3, xi x), (4, xi 3)]) (st' := [xi ((wC (aJ I 6 v (↑n)) [70, 11, 71, 10]) 104 4), xi x]) rfl ?_
          rw [wC_f (by decide), aJ_4]
          refine ex_st 1 (pc' := 146) (ls' := [(6, xi 4), (5, xi 10), (0, xr 104), (1, xi 0), (2, xi 3), (3, xi x), (4, xi 3)]) (st' := [xi (x + (↑n))]) rfl ?_
          refine ex_reti rfl rfl ?_
          refine ex_st 2 (pc' := 299) (ls' := [(6, xi 3), (5, xi 71), (0, xr 104), (1, xi 0), (2, xi 6), (3, xi x), (4, xi 2)]) (st' := [xi ((wC (aJ I 6 v (↑n)) [70, 11, 71, 10]) 104 3), xi (x + (↑n))]) rfl ?_
          rw [wC_f (by decide), aJ_3]
          refine ex_ixor rfl ?_
          generalize hzx1 : z_xor (x + (↑n)) v = zx1
          refine ex_reti rfl rfl ?_
          refine ex_st 2 (pc' := 163) (ls' := [(6, xi 2), (5, xi 11), (0, xr 104), (1, xi 1), (2, xi 3), (3, xi x), (4, xi 1)]) (st' := [xi ((wC (aJ I 6 v (↑n)) [70, 11, 71, 10]) 104 3), xi zx1]) rfl ?_
          rw [wC_f (by decide), aJ_3]
          refine ex_st 1 (pc' := 164) (ls' := [(6, xi 2), (5, xi 11), (0, xr 104), (1, xi 1), (2, xi 3), (3, xi x), (4, xi 1)]) (st' := [xi (zx1 - v)]) rfl ?_
          refine ex_reti rfl rfl ?_
          refine ex_st 5 (pc' := 281) (ls' := [(6, xi 1), (5, xi 70), (0, xr 104), (1, xi 1), (2, xi 6), (3, xi x), (4, xi 0)]) (st' := [xi 1, xi 2, xi 3, xi 0, xr 104, xi (zx1 - v)]) rfl ?_
          refine ex_inl (M' := xM_A_run) (as := [xr 104, xi 0, xi 3, xi 2, xi 1]) (rest := [xi (zx1 - v)]) (D' := 17) rfl (Nat.le_of_ble_eq_true rfl) (by decide) rfl ⟨rfl, rfl, rfl⟩ ⟨Nat.le_of_ble_eq_true rfl, rfl, rfl⟩ (Nat.le_of_ble_eq_true rfl) rfl ?_
          refine ex_st 2 (pc' := 4) (ls' := [(0, xr 104), (1, xi 0), (2, xi 3), (3, xi 2), (4, xi 1)]) (st' := [xi 20, xi 1]) rfl ?_
          refine ex_st 1 (pc' := 7) (ls' := [(0, xr 104), (1, xi 0), (2, xi 3), (3, xi 2), (4, xi 1)]) (st' := []) rfl ?_
          refine ex_st 1 (pc' := 8) (ls' := [(0, xr 104), (1, xi 0), (2, xi 3), (3, xi 2), (4, xi 1)]) (st' := [xi 3]) rfl ?_
          refine ex_call (ct_G_isKind (by decide)) (by decide) rfl ⟨rfl, rfl, rfl⟩ ⟨Nat.le_of_ble_eq_true rfl, rfl, rfl⟩ (Nat.le_of_ble_eq_true rfl) rfl ?_
          refine ex_bne rfl (fun h4 => ?_) (fun h4 => ?_)
          · refine ex_st 6 (pc' := 24) (ls' := [(0, xr 104), (1, xi 0), (2, xi 3), (3, xi 2), (4, xi 1)]) (st' := [xi 9, xr 1003]) rfl ?_
            refine ex_cald (v := 10) (j := 9) rfl (by decide) rfl (by decide) (by decide) (by decide) (rfl) ?_
            refine ex_st 3 (pc' := 30) (ls' := [(5, xi 10), (0, xr 104), (1, xi 0), (2, xi 3), (3, xi 2), (4, xi 1)]) (st' := [xi 10, xr 104]) rfl ?_
            refine ex_call (ct_A_note2 (b := 10) (by decide)) (by decide) rfl ⟨rfl, rfl, rfl⟩ ⟨Nat.le_of_ble_eq_true rfl, rfl, rfl⟩ (Nat.le_of_ble_eq_true rfl) rfl ?_
            refine ex_st 5 (pc' := 41) (ls' := [(6, xi 2), (5, xi 10), (0, xr 104), (1, xi 0), (2, xi 3), (3, xi 2), (4, xi 1)]) (st' := [xi 10]) rfl ?_
            refine ex_st 1 (pc' := 140) (ls' := [(6, xi 2), (5, xi 10), (0, xr 104), (1, xi 0), (2, xi 3), (3, xi 2), (4, xi 1)]) (st' := []) rfl ?_
            refine ex_st 3 (pc' := 145) (ls' := [(6, xi 2), (5, xi 10), (0, xr 104), (1, xi 0), (2, xi 3), (3, xi 2), (4, xi 1)]) (st' := [xi ((wC (aJ I 6 v (↑n)) [70, 11, 71, 10, 10]) 104 4), xi 2]) rfl ?_
            rw [wC_f (by decide), aJ_4]
            refine ex_st 1 (pc' := 146) (ls' := [(6, xi 2), (5, xi 10), (0, xr 104), (1, xi 0), (2, xi 3), (3, xi 2), (4, xi 1)]) (st' := [xi (2 + (↑n))]) rfl ?_
            refine ex_reti rfl rfl ?_
            refine ex_st 1 (pc' := 285) (ls' := [(6, xi 1), (5, xi 70), (0, xr 104), (1, xi 1), (2, xi 6), (3, xi x), (4, xi 0)]) (st' := [xi ((zx1 - v) + (2 + (↑n)))]) rfl ?_
            refine ex_reti rfl rfl ?_
            refine ex_reti rfl rfl ?_
            subst hzx1
            exact ⟨rfl, rfl⟩
          · exfalso; omega
        · exfalso; omega
      · exfalso; omega
    · exfalso; omega
  · exfalso; omega
set_option maxRecDepth 8000 in
set_option maxHeartbeats 2000000 in
theorem ct_A_begin_6_2 {sc : List Int} {I : Nat → Nat → Int} {L : Nat → Nat → Int64} {n : Nat} {x v : Int} (hn : n < 6) (hq : I (11 + 3 * n) 0 = 6) (hv : I (11 + 3 * n) 1 = v) : x_CE sc 20 xN_A_begin [xr 104, xi 2, xi (↑n), xr (11 + 3 * n), xi x] (xSH, I, L) (some (xi (((((z_xor (x + (↑n)) v) - v) + (2 + (↑n))) * 2) + (((z_xor (1 + (↑n)) v) - v) + (2 + (↑n)))))) (xSH, wC (aJ I 6 v (↑n)) [40, 12, 70, 11, 71, 10, 10, 70, 11, 71, 10, 10], L) := by
  refine x_CE.of (M := xM_A_begin) rfl (Nat.le_of_ble_eq_true rfl) ?_
  refine ex_st 2 (pc' := 2) (ls' := [(0, xr 104), (1, xi 2), (2, xi (↑n)), (3, xr (11 + 3 * n)), (4, xi x)]) (st' := [xr (11 + 3 * n), xr 104]) rfl ?_
  refine ex_gfi rfl (by omega) (x_so1 n (by omega)).1 (by decide) (by decide) rfl ?_
  rw [hq]
  refine ex_pfi rfl (by decide) (rfl : xSH[104]? = some _) (by decide) rfl (by decide) (fun h => by cases h) ?_
  refine ex_st 2 (pc' := 10) (ls' := [(0, xr 104), (1, xi 2), (2, xi (↑n)), (3, xr (11 + 3 * n)), (4, xi x)]) (st' := [xr (11 + 3 * n), xr 104]) rfl ?_
  refine ex_gfi rfl (by omega) (x_so1 n (by omega)).1 (by decide) (by decide) rfl ?_
  rw [x_up_far (k := 11 + 3 * n) (j := 1) (k0 := 104) (j0 := 2) (by first | decide | omega), hv]
  refine ex_pfi rfl (by decide) (rfl : xSH[104]? = some _) (by decide) rfl (by decide) (fun h => by cases h) ?_
  refine ex_st 2 (pc' := 18) (ls' := [(0, xr 104), (1, xi 2), (2, xi (↑n)), (3, xr (11 + 3 * n)), (4, xi x)]) (st' := [xi (↑n), xr 104]) rfl ?_
  refine ex_pfi rfl (by decide) (rfl : xSH[104]? = some _) (by decide) rfl (by decide) (fun h => by cases h) ?_
  refine ex_st 2 (pc' := 23) (ls' := [(0, xr 104), (1, xi 2), (2, xi (↑n)), (3, xr (11 + 3 * n)), (4, xi x)]) (st' := [xi 0, xr 104]) rfl ?_
  refine ex_pfi rfl (by decide) (rfl : xSH[104]? = some _) (by decide) rfl (by decide) (fun h => by cases h) ?_
  rw [wC_beg]
  refine ex_st 4 (pc' := 32) (ls' := [(0, xr 104), (1, xi 2), (2, xi (↑n)), (3, xr (11 + 3 * n)), (4, xi x)]) (st' := [xi ((wC (aJ I 6 v (↑n)) []) 104 2), xi 2, xr 104]) rfl ?_
  rw [wC_f (by decide), aJ_2]
  refine ex_st 2 (pc' := 35) (ls' := [(0, xr 104), (1, xi 2), (2, xi (↑n)), (3, xr (11 + 3 * n)), (4, xi x)]) (st' := [xi 0, xi x, xi 6, xi 2, xr 104]) rfl ?_
  refine ex_inl (M' := xM_A_run) (as := [xr 104, xi 2, xi 6, xi x, xi 0]) (rest := []) (D' := 18) rfl (Nat.le_of_ble_eq_true rfl) (by decide) rfl ⟨rfl, rfl, rfl⟩ ⟨Nat.le_of_ble_eq_true rfl, rfl, rfl⟩ (Nat.le_of_ble_eq_true rfl) rfl ?_
  refine ex_st 2 (pc' := 4) (ls' := [(0, xr 104), (1, xi 2), (2, xi 6), (3, xi x), (4, xi 0)]) (st' := [xi 20, xi 0]) rfl ?_
  refine ex_st 1 (pc' := 7) (ls' := [(0, xr 104), (1, xi 2), (2, xi 6), (3, xi x), (4, xi 0)]) (st' := []) rfl ?_
  refine ex_st 1 (pc' := 8) (ls' := [(0, xr 104), (1, xi 2), (2, xi 6), (3, xi x), (4, xi 0)]) (st' := [xi 6]) rfl ?_
  refine ex_call (ct_G_isKind (by decide)) (by decide) rfl ⟨rfl, rfl, rfl⟩ ⟨Nat.le_of_ble_eq_true rfl, rfl, rfl⟩ (Nat.le_of_ble_eq_true rfl) rfl ?_
  refine ex_bne rfl (fun h0 => ?_) (fun h0 => ?_)
  · refine ex_st 6 (pc' := 24) (ls' := [(0, xr 104), (1, xi 2), (2, xi 6), (3, xi x), (4, xi 0)]) (st' := [xi 20, xr 1003]) rfl ?_
    refine ex_cald (v := 40) (j := 20) rfl (by decide) rfl (by decide) (by decide) (by decide) (rfl) ?_
    refine ex_st 3 (pc' := 30) (ls' := [(5, xi 40), (0, xr 104), (1, xi 2), (2, xi 6), (3, xi x), (4, xi 0)]) (st' := [xi 40, xr 104]) rfl ?_
    refine ex_call (ct_A_note2 (b := 40) (by decide)) (by decide) rfl ⟨rfl, rfl, rfl⟩ ⟨Nat.le_of_ble_eq_true rfl, rfl, rfl⟩ (Nat.le_of_ble_eq_true rfl) rfl ?_
    refine ex_st 5 (pc' := 41) (ls' := [(6, xi 1), (5, xi 40), (0, xr 104), (1, xi 2), (2, xi 6), (3, xi x), (4, xi 0)]) (st' := [xi 40]) rfl ?_
    refine ex_st 1 (pc' := 205) (ls' := [(6, xi 1), (5, xi 40), (0, xr 104), (1, xi 2), (2, xi 6), (3, xi x), (4, xi 0)]) (st' := []) rfl ?_
    refine ex_st 5 (pc' := 211) (ls' := [(6, xi 1), (5, xi 40), (0, xr 104), (1, xi 2), (2, xi 6), (3, xi x), (4, xi 0)]) (st' := [xi 1, xi x, xi 0, xi 2, xr 104]) rfl ?_
    refine ex_inl (M' := xM_A_run) (as := [xr 104, xi 2, xi 0, xi x, xi 1]) (rest := []) (D' := 17) rfl (Nat.le_of_ble_eq_true rfl) (by decide) rfl ⟨rfl, rfl, rfl⟩ ⟨Nat.le_of_ble_eq_true rfl, rfl, rfl⟩ (Nat.le_of_ble_eq_true rfl) rfl ?_
    refine ex_st 2 (pc' := 4) (ls' := [(0, xr 104), (1, xi 2), (2, xi 0), (3, xi x), (4, xi 1)]) (st' := [xi 20, xi 1]) rfl ?_
    refine ex_st 1 (pc' := 7) (ls' := [(0, xr 104), (1, xi 2), (2, xi 0), (3, xi x), (4, xi 1)]) (st' := []) rfl ?_
    refine ex_st 1 (pc' := 8) (ls' := [(0, xr 104), (1, xi 2), (2, xi 0), (3, xi x), (4, xi 1)]) (st' := [xi 0]) rfl ?_
    refine ex_call (ct_G_isKind (by decide)) (by decide) rfl ⟨rfl, rfl, rfl⟩ ⟨Nat.le_of_ble_eq_true rfl, rfl, rfl⟩ (Nat.le_of_ble_eq_true rfl) rfl ?_
    refine ex_bne rfl (fun h1 => ?_) (fun h1 => ?_)
    · refine ex_st 6 (pc' := 24) (ls' := [(0, xr 104), (1, xi 2), (2, xi 0), (3, xi x), (4, xi 1)]) (st' := [xi 2, xr 1003]) rfl ?_
      refine ex_cald (v := 12) (j := 2) rfl (by decide) rfl (by decide) (by decide) (by decide) (rfl) ?_
      refine ex_st 3 (pc' := 30) (ls' := [(5, xi 12), (0, xr 104), (1, xi 2), (2, xi 0), (3, xi x), (4, xi 1)]) (st' := [xi 12, xr 104]) rfl ?_
      refine ex_call (ct_A_note2 (b := 12) (by decide)) (by decide) rfl ⟨rfl, rfl, rfl⟩ ⟨Nat.le_of_ble_eq_true rfl, rfl, rfl⟩ (Nat.le_of_ble_eq_true rfl) rfl ?_
      refine ex_st 5 (pc' := 41) (ls' := [(6, xi 2), (5, xi 12), (0, xr 104), (1, xi 2), (2, xi 0), (3, xi x), (4, xi 1)]) (st' := [xi 12]) rfl ?_
      refine ex_st 1 (pc' := 165) (ls' := [(6, xi 2), (5, xi 12), (0, xr 104), (1, xi 2), (2, xi 0), (3, xi x), (4, xi 1)]) (st' := []) rfl ?_
      refine ex_st 4 (pc' := 171) (ls' := [(6, xi 2), (5, xi 12), (0, xr 104), (1, xi 2), (2, xi 0), (3, xi x), (4, xi 1)]) (st' := [xi ((wC (aJ I 6 v (↑n)) [40, 12]) 104 2), xi 1, xr 104]) rfl ?_
      rw [wC_f (by decide), aJ_2]
      refine ex_st 2 (pc' := 174) (ls' := [(6, xi 2), (5, xi 12), (0, xr 104), (1, xi 2), (2, xi 0), (3, xi x), (4, xi 1)]) (st' := [xi 2, xi x, xi 6, xi 1, xr 104]) rfl ?_
      refine ex_inl (M' := xM_A_run) (as := [xr 104, xi 1, xi 6, xi x, xi 2]) (rest := []) (D' := 16) rfl (Nat.le_of_ble_eq_true rfl) (by decide) rfl ⟨rfl, rfl, rfl⟩ ⟨Nat.le_of_ble_eq_true rfl, rfl, rfl⟩ (Nat.le_of_ble_eq_true rfl) rfl ?_
      refine ex_st 2 (pc' := 4) (ls' := [(0, xr 104), (1, xi 1), (2, xi 6), (3, xi x), (4, xi 2)]) (st' := [xi 20, xi 2]) rfl ?_
      refine ex_st 1 (pc' := 7) (ls' := [(0, xr 104), (1, xi 1), (2, xi 6), (3, xi x), (4, xi 2)]) (st' := []) rfl ?_
      refine ex_st 1 (pc' := 8) (ls' := [(0, xr 104), (1, xi 1), (2, xi 6), (3, xi x), (4, xi 2)]) (st' := [xi 6]) rfl ?_
      refine ex_call (ct_G_isKind (by decide)) (by decide) rfl ⟨rfl, rfl, rfl⟩ ⟨Nat.le_of_ble_eq_true rfl, rfl, rfl⟩ (Nat.le_of_ble_eq_true rfl) rfl ?_
      refine ex_bne rfl (fun h2 => ?_) (fun h2 => ?_)
      · refine ex_st 6 (pc' := 24) (ls' := [(0, xr 104), (1, xi 1), (2, xi 6), (3, xi x), (4, xi 2)]) (st' := [xi 19, xr 1003]) rfl ?_
        refine ex_cald (v := 70) (j := 19) rfl (by decide) rfl (by decide) (by decide) (by decide) (rfl) ?_
        refine ex_st 3 (pc' := 30) (ls' := [(5, xi 70), (0, xr 104), (1, xi 1), (2, xi 6), (3, xi x), (4, xi 2)]) (st' := [xi 70, xr 104]) rfl ?_
        refine ex_call (ct_A_note2 (b := 70) (by decide)) (by decide) rfl ⟨rfl, rfl, rfl⟩ ⟨Nat.le_of_ble_eq_true rfl, rfl, rfl⟩ (Nat.le_of_ble_eq_true rfl) rfl ?_
        refine ex_st 5 (pc' := 41) (ls' := [(6, xi 3), (5, xi 70), (0, xr 104), (1, xi 1), (2, xi 6), (3, xi x), (4, xi 2)]) (st' := [xi 70]) rfl ?_
        refine ex_st 1 (pc' := 266) (ls' := [(6, xi 3), (5, xi 70), (0, xr 104), (1, xi 1), (2, xi 6), (3, xi x), (4, xi 2)]) (st' := []) rfl ?_
        refine ex_st 5 (pc' := 272) (ls' := [(6, xi 3), (5, xi 70), (0, xr 104), (1, xi 1), (2, xi 6), (3, xi x), (4, xi 2)]) (st' := [xi 3, xi x, xi 3, xi 1, xr 104]) rfl ?_
        refine ex_inl (M' := xM_A_run) (as := [xr 104, xi 1, xi 3, xi x, xi 3]) (rest := []) (D' := 15) rfl (Nat.le_of_ble_eq_true rfl) (by decide) rfl ⟨rfl, rfl, rfl⟩ ⟨Nat.le_of_ble_eq_true rfl, rfl, rfl⟩ (Nat.le_of_ble_eq_true rfl) rfl ?_
        refine ex_st 2 (pc' := 4) (ls' := [(0, xr 104), (1, xi 1), (2, xi 3), (3, xi x), (4, xi 3)]) (st' := [xi 20, xi 3]) rfl ?_
        refine ex_st 1 (pc' := 7) (ls' := [(0, xr 104), (1, xi 1), (2, xi 3), (3, xi x), (4, xi 3)]) (st' := []) rfl ?_
        refine ex_st 1 (pc' := 8) (ls' := [(0, xr 104), (1, xi 1), (2, xi 3), (3, xi x), (4, xi 3)]) (st' := [xi 3]) rfl ?_
        refine ex_call (ct_G_isKind (by decide)) (by decide) rfl ⟨rfl, rfl, rfl⟩ ⟨Nat.le_of_ble_eq_true rfl, rfl, rfl⟩ (Nat.le_of_ble_eq_true rfl) rfl ?_
        refine ex_bne rfl (fun h3 => ?_) (fun h3 => ?_)
        · refine ex_st 6 (pc' := 24) (ls' := [(0, xr 104), (1, xi 1), (2, xi 3), (3, xi x), (4, xi 3)]) (st' := [xi 10, xr 1003]) rfl ?_
          refine ex_cald (v := 11) (j := 10) rfl (by decide) rfl (by decide) (by decide) (by decide) (rfl) ?_
          refine ex_st 3 (pc' := 30) (ls' := [(5, xi 11), (0, xr 104), (1, xi 1), (2, xi 3), (3, xi x), (4, xi 3)]) (st' := [xi 11, xr 104]) rfl ?_
          refine ex_call (ct_A_note2 (b := 11) (by decide)) (by decide) rfl ⟨rfl, rfl, rfl⟩ ⟨Nat.le_of_ble_eq_true rfl, rfl, rfl⟩ (Nat.le_of_ble_eq_true rfl) rfl ?_
          refine ex_st 5 (pc' := 41) (ls' := [(6, xi 4), (5, xi 11), (0, xr 104), (1, xi 1), (2, xi 3), (3, xi x), (4, xi 3)]) (st' := [xi 11]) rfl ?_
          refine ex_st 1 (pc' := 147) (ls' := [(6, xi 4), (5, xi 11), (0, xr 104), (1, xi 1), (2, xi 3), (3, xi x), (4, xi 3)]) (st' := []) rfl ?_
          refine ex_st 4 (pc' := 153) (ls' := [(6, xi 4), (5, xi 11), (0, xr 104), (1, xi 1), (2, xi 3), (3, xi x), (4, xi 3)]) (st' := [xi ((wC (aJ I 6 v (↑n)) [40, 12, 70, 11]) 104 2), xi 0, xr 104]) rfl ?_
          rw [wC_f (by decide), aJ_2]
          refine ex_st 2 (pc' := 156) (ls' := [(6, xi 4), (5, xi 11), (0, xr 104), (1, xi 1), (2, xi 3), (3, xi x), (4, xi 3)]) (st' := [xi 4, xi x, xi 6, xi 0, xr 104]) rfl ?_
          refine ex_inl (M' := xM_A_run) (as := [xr 104, xi 0, xi 6, xi x, xi 4]) (rest := []) (D' := 14) rfl (Nat.le_of_ble_eq_true rfl) (by decide) rfl ⟨rfl, rfl, rfl⟩ ⟨Nat.le_of_ble_eq_true rfl, rfl, rfl⟩ (Nat.le_of_ble_eq_true rfl) rfl ?_
          refine ex_st 2 (pc' := 4) (ls' := [(0, xr 104), (1, xi 0), (2, xi 6), (3, xi x), (4, xi 4)]) (st' := [xi 20, xi 4]) rfl ?_
          refine ex_st 1 (pc' := 7) (ls' := [(0, xr 104), (1, xi 0), (2, xi 6), (3, xi x), (4, xi 4)]) (st' := []) rfl ?_
          refine ex_st 1 (pc' := 8) (ls' := [(0, xr 104), (1, xi 0), (2, xi 6), (3, xi x), (4, xi 4)]) (st' := [xi 6]) rfl ?_
          refine ex_call (ct_G_isKind (by decide)) (by decide) rfl ⟨rfl, rfl, rfl⟩ ⟨Nat.le_of_ble_eq_true rfl, rfl, rfl⟩ (Nat.le_of_ble_eq_true rfl) rfl ?_
          refine ex_bne rfl (fun h4 => ?_) (fun h4 => ?_)
          · refine ex_st 6 (pc' := 24) (ls' := [(0, xr 104), (1, xi 0), (2, xi 6), (3, xi x), (4, xi 4)]) (st' := [xi 18, xr 1003]) rfl ?_
            refine ex_cald (v := 71) (j := 18) rfl (by decide) rfl (by decide) (by decide) (by decide) (rfl) ?_
            refine ex_st 3 (pc' := 30) (ls' := [(5, xi 71), (0, xr 104), (1, xi 0), (2, xi 6), (3, xi x), (4, xi 4)]) (st' := [xi 71, xr 104]) rfl ?_
            refine ex_call (ct_A_note2 (b := 71) (by decide)) (by decide) rfl ⟨rfl, rfl, rfl⟩ ⟨Nat.le_of_ble_eq_true rfl, rfl, rfl⟩ (Nat.le_of_ble_eq_true rfl) rfl ?_
            refine ex_st 5 (pc' := 41) (ls' := [(6, xi 5), (5, xi 71), (0, xr 104), (1, xi 0), (2, xi 6), (3, xi x), (4, xi 4)]) (st' := [xi 71]) rfl ?_
            refine ex_st 1 (pc' := 286) (ls' := [(6, xi 5), (5, xi 71), (0, xr 104), (1, xi 0), (2, xi 6), (3, xi x), (4, xi 4)]) (st' := []) rfl ?_
            refine ex_st 5 (pc' := 292) (ls' := [(6, xi 5), (5, xi 71), (0, xr 104), (1, xi 0), (2, xi 6), (3, xi x), (4, xi 4)]) (st' := [xi 5, xi x, xi 3, xi 0, xr 104]) rfl ?_
            refine ex_inl (M' := xM_A_run) (as := [xr 104, xi 0, xi 3, xi x, xi 5]) (rest := []) (D' := 13) rfl (Nat.le_of_ble_eq_true rfl) (by decide) rfl ⟨rfl, rfl, rfl⟩ ⟨Nat.le_of_ble_eq_true rfl, rfl, rfl⟩ (Nat.le_of_ble_eq_true rfl) rfl ?_
            refine ex_st 2 (pc' := 4) (ls' := [(0, xr 104), (1, xi 0), (2, xi 3), (3, xi x), (4, xi 5)]) (st' := [xi 20, xi 5]) rfl ?_
            refine ex_st 1 (pc' := 7) (ls' := [(0, xr 104), (1, xi 0), (2, xi 3), (3, xi x), (4, xi 5)]) (st' := []) rfl ?_
            refine ex_st 1 (pc' := 8) (ls' := [(0, xr 104), (1, xi 0), (2, xi 3), (3, xi x), (4, xi 5)]) (st' := [xi 3]) rfl ?_
            refine ex_call (ct_G_isKind (by decide)) (by decide) rfl ⟨rfl, rfl, rfl⟩ ⟨Nat.le_of_ble_eq_true rfl, rfl, rfl⟩ (Nat.le_of_ble_eq_true rfl) rfl ?_
            refine ex_bne rfl (fun h5 => ?_) (fun h5 => ?_)
            · refine ex_st 6 (pc' := 24) (ls' := [(0, xr 104), (1, xi 0), (2, xi 3), (3, xi x), (4, xi 5)]) (st' := [xi 9, xr 1003]) rfl ?_
              refine ex_cald (v := 10) (j := 9) rfl (by decide) rfl (by decide) (by decide) (by decide) (rfl) ?_
              refine ex_st 3 (pc' := 30) (ls' := [(5, xi 10), (0, xr 104), (1, xi 0), (2, xi 3), (3, xi x), (4, xi 5)]) (st' := [xi 10, xr 104]) rfl ?_
              refine ex_call (ct_A_note2 (b := 10) (by decide)) (by decide) rfl ⟨rfl, rfl, rfl⟩ ⟨Nat.le_of_ble_eq_true rfl, rfl, rfl⟩ (Nat.le_of_ble_eq_true rfl) rfl ?_
              refine ex_st 5 (pc' := 41) (ls' := [(6, xi 6), (5, xi 10), (0, xr 104), (1, xi 0), (2, xi 3), (3, xi x), (4, xi 5)]) (st' := [xi 10]) rfl ?_
              refine ex_st 1 (pc' := 140) (ls' := [(6, xi 6), (5, xi 10), (0, xr 104), (1, xi 0), (2, xi 3), (3, xi x), (4, xi 5)]) (st' := []) rfl ?_
              refine ex_st 3 (pc' := 145) (ls' := [(6, xi 6), (5, xi 10), (0, xr 104), (1, xi 0), (2, xi 3), (3, xi x), (4, xi 5)]) (st' := [xi ((wC (aJ I 6 v (↑n)) [40, 12, 70, 11, 71, 10]) 104 4), xi x]) rfl ?_
              rw [wC_f (by decide), aJ_4]
              refine ex_st 1 (pc' := 146) (ls' := [(6, xi 6), (5, xi 10), (0, xr 104), (1, xi 0), (2, xi 3), (3, xi x), (4, xi 5)]) (st' := [xi (x + (↑n))]) rfl ?_
              refine ex_reti rfl rfl ?_
              refine ex_st 2 (pc' := 299) (ls' := [(6, xi 5), (5, xi 71), (0, xr 104), (1, xi 0), (2, xi 6), (3, xi x), (4, xi 4)]) (st' := [xi ((wC (aJ I 6 v (↑n)) [40, 12, 70, 11, 71, 10]) 104 3), xi (x + (↑n))]) rfl ?_
              rw [wC_f (by decide), aJ_3]
              refine ex_ixor rfl ?_
              generalize hzx1 : z_xor (x + (↑n)) v = zx1
              refine ex_reti rfl rfl ?_
              refine ex_st 2 (pc' := 163) (ls' := [(6, xi 4), (5, xi 11), (0, xr 104), (1, xi 1), (2, xi 3), (3, xi x), (4, xi 3)]) (st' := [xi ((wC (aJ I 6 v (↑n)) [40, 12, 70, 11, 71, 10]) 104 3), xi zx1]) rfl ?_
              rw [wC_f (by decide), aJ_3]
              refine ex_st 1 (pc' := 164) (ls' := [(6, xi 4), (5, xi 11), (0, xr 104), (1, xi 1), (2, xi 3), (3, xi x), (4, xi 3)]) (st' := [xi (zx1 - v)]) rfl ?_
              refine ex_reti rfl rfl ?_
              refine ex_st 5 (pc' := 281) (ls' := [(6, xi 3), (5, xi 70), (0, xr 104), (1, xi 1), (2, xi 6), (3, xi x), (4, xi 2)]) (st' := [xi 3, xi 2, xi 3, xi 0, xr 104, xi (zx1 - v)]) rfl ?_
              refine ex_inl (M' := xM_A_run) (as := [xr 104, xi 0, xi 3, xi 2, xi 3]) (rest := [xi (zx1 - v)]) (D' := 15) rfl (Nat.le_of_ble_eq_true rfl) (by decide) rfl ⟨rfl, rfl, rfl⟩ ⟨Nat.le_of_ble_eq_true rfl, rfl, rfl⟩ (Nat.le_of_ble_eq_true rfl) rfl ?_
              refine ex_st 2 (pc' := 4) (ls' := [(0, xr 104), (1, xi 0), (2, xi 3), (3, xi 2), (4, xi 3)]) (st' := [xi 20, xi 3]) rfl ?_
              refine ex_st 1 (pc' := 7) (ls' := [(0, xr 104), (1, xi 0), (2, xi 3), (3, xi 2), (4, xi 3)]) (st' := []) rfl ?_
              refine ex_st 1 (pc' := 8) (ls' := [(0, xr 104), (1, xi 0), (2, xi 3), (3, xi 2), (4, xi 3)]) (st' := [xi 3]) rfl ?_
              refine ex_call (ct_G_isKind (by decide)) (by decide) rfl ⟨rfl, rfl, rfl⟩ ⟨Nat.le_of_ble_eq_true rfl, rfl, rfl⟩ (Nat.le_of_ble_eq_true rfl) rfl ?_
              refine ex_bne rfl (fun h6 => ?_) (fun h6 => ?_)
              · refine ex_st 6 (pc' := 24) (ls' := [(0, xr 104), (1, xi 0), (2, xi 3), (3, xi 2), (4, xi 3)]) (st' := [xi 9, xr 1003]) rfl ?_
                refine ex_cald (v := 10) (j := 9) rfl (by decide) rfl (by decide) (by decide) (by decide) (rfl) ?_
                refine ex_st 3 (pc' := 30) (ls' := [(5, xi 10), (0, xr 104), (1, xi 0), (2, xi 3), (3, xi 2), (4, xi 3)]) (st' := [xi 10, xr 104]) rfl ?_
                refine ex_call (ct_A_note2 (b := 10) (by decide)) (by decide) rfl ⟨rfl, rfl, rfl⟩ ⟨Nat.le_of_ble_eq_true rfl, rfl, rfl⟩ (Nat.le_of_ble_eq_true rfl) rfl ?_
                refine ex_st 5 (pc' := 41) (ls' := [(6, xi 4), (5, xi 10), (0, xr 104), (1, xi 0), (2, xi 3), (3, xi 2), (4, xi 3)]) (st' := [xi 10]) rfl ?_
                refine ex_st 1 (pc' := 140) (ls' := [(6, xi 4), (5, xi 10), (0, xr 104), (1, xi 0), (2, xi 3), (3, xi 2), (4, xi 3)]) (st' := []) rfl ?_
                refine ex_st 3 (pc' := 145) (ls' := [(6, xi 4), (5, xi 10), (0, xr 104), (1, xi 0), (2, xi 3), (3, xi 2), (4, xi 3)]) (st' := [xi ((wC (aJ I 6 v (↑n)) [40, 12, 70, 11, 71, 10, 10]) 104 4), xi 2]) rfl ?_
                rw [wC_f (by decide), aJ_4]
                refine ex_st 1 (pc' := 146) (ls' := [(6, xi 4), (5, xi 10), (0, xr 104), (1, xi 0), (2, xi 3), (3, xi 2), (4, xi 3)]) (st' := [xi (2 + (↑n))]) rfl ?_
                refine ex_reti rfl rfl ?_
                refine ex_st 1 (pc' := 285) (ls' := [(6, xi 3), (5, xi 70), (0, xr 104), (1, xi 1), (2, xi 6), (3, xi x), (4, xi 2)]) (st' := [xi ((zx1 - v) + (2 + (↑n)))]) rfl ?_
                refine ex_reti rfl rfl ?_
                refine ex_st 2 (pc' := 179) (ls' := [(6, xi 2), (5, xi 12), (0, xr 104), (1, xi 2), (2, xi 0), (3, xi x), (4, xi 1)]) (st' := [xi (((zx1 - v) + (2 + (↑n))) * 2)]) rfl ?_
                refine ex_reti rfl rfl ?_
                refine ex_st 4 (pc' := 220) (ls' := [(6, xi 1), (5, xi 40), (0, xr 104), (1, xi 2), (2, xi 6), (3, xi x), (4, xi 0)]) (st' := [xi ((wC (aJ I 6 v (↑n)) [40, 12, 70, 11, 71, 10, 10]) 104 2), xi 1, xr 104, xi (((zx1 - v) + (2 + (↑n))) * 2)]) rfl ?_
                rw [wC_f (by decide), aJ_2]
                refine ex_st 2 (pc' := 223) (ls' := [(6, xi 1), (5, xi 40), (0, xr 104), (1, xi 2), (2, xi 6), (3, xi x), (4, xi 0)]) (st' := [xi 1, xi 1, xi 6, xi 1, xr 104, xi (((zx1 - v) + (2 + (↑n))) * 2)]) rfl ?_
                refine ex_inl (M' := xM_A_run) (as := [xr 104, xi 1, xi 6, xi 1, xi 1]) (rest := [xi (((zx1 - v) + (2 + (↑n))) * 2)]) (D' := 17) rfl (Nat.le_of_ble_eq_true rfl) (by decide) rfl ⟨rfl, rfl, rfl⟩ ⟨Nat.le_of_ble_eq_true rfl, rfl, rfl⟩ (Nat.le_of_ble_eq_true rfl) rfl ?_
                refine ex_st 2 (pc' := 4) (ls' := [(0, xr 104), (1, xi 1), (2, xi 6), (3, xi 1), (4, xi 1)]) (st' := [xi 20, xi 1]) rfl ?_
                refine ex_st 1 (pc' := 7) (ls' := [(0, xr 104), (1, xi 1), (2, xi 6), (3, xi 1), (4, xi 1)]) (st' := []) rfl ?_
                refine ex_st 1 (pc' := 8) (ls' := [(0, xr 104), (1, xi 1), (2, xi 6), (3, xi 1), (4, xi 1)]) (st' := [xi 6]) rfl ?_
                refine ex_call (ct_G_isKind (by decide)) (by decide) rfl ⟨rfl, rfl, rfl⟩ ⟨Nat.le_of_ble_eq_true rfl, rfl, rfl⟩ (Nat.le_of_ble_eq_true rfl) rfl ?_
                refine ex_bne rfl (fun h7 => ?_) (fun h7 => ?_)
                · refine ex_st 6 (pc' := 24) (ls' := [(0, xr 104), (1, xi 1), (2, xi 6), (3, xi 1), (4, xi 1)]) (st' := [xi 19, xr 1003]) rfl ?_
                  refine ex_cald (v := 70) (j := 19) rfl (by decide) rfl (by decide) (by decide) (by decide) (rfl) ?_
                  refine ex_st 3 (pc' := 30) (ls' := [(5, xi 70), (0, xr 104), (1, xi 1), (2, xi 6), (3, xi 1), (4, xi 1)]) (st' := [xi 70, xr 104]) rfl ?_
                  refine ex_call (ct_A_note2 (b := 70) (by decide)) (by decide) rfl ⟨rfl, rfl, rfl⟩ ⟨Nat.le_of_ble_eq_true rfl, rfl, rfl⟩ (Nat.le_of_ble_eq_true rfl) rfl ?_
                  refine ex_st 5 (pc' := 41) (ls' := [(6, xi 2), (5, xi 70), (0, xr 104), (1, xi 1), (2, xi 6), (3, xi 1), (4, xi 1)]) (st' := [xi 70]) rfl ?_
                  refine ex_st 1 (pc' := 266) (ls' := [(6, xi 2), (5, xi 70), (0, xr 104), (1, xi 1), (2, xi 6), (3, xi 1), (4, xi 1)]) (st' := []) rfl ?_
                  refine ex_st 5 (pc' := 272) (ls' := [(6, xi 2), (5, xi 70), (0, xr 104), (1, xi 1), (2, xi 6), (3, xi 1), (4, xi 1)]) (st' := [xi 2, xi 1, xi 3, xi 1, xr 104]) rfl ?_
                  refine ex_inl (M' := xM_A_run) (as := [xr 104, xi 1, xi 3, xi 1, xi 2]) (rest := []) (D' := 16) rfl (Nat.le_of_ble_eq_true rfl) (by decide) rfl ⟨rfl, rfl, rfl⟩ ⟨Nat.le_of_ble_eq_true rfl, rfl, rfl⟩ (Nat.le_of_ble_eq_true rfl) rfl ?_
                  refine ex_st 2 (pc' := 4) (ls' := [(0, xr 104), (1, xi 1), (2, xi 3), (3, xi 1), (4, xi 2)]) (st' := [xi 20, xi 2]) rfl ?_
                  refine ex_st 1 (pc' := 7) (ls' := [(0, xr 104), (1, xi 1), (2, xi 3), (3, xi 1), (4, xi 2)]) (st' := []) rfl ?_
                  refine ex_st 1 (pc' := 8) (ls' := [(0, xr 104), (1, xi 1), (2, xi 3), (3, xi 1), (4, xi 2)]) (st' := [xi 3]) rfl ?_
                  refine ex_call (ct_G_isKind (by decide)) (by decide) rfl ⟨rfl, rfl, rfl⟩ ⟨Nat.le_of_ble_eq_true rfl, rfl, rfl⟩ (Nat.le_of_ble_eq_true rfl) rfl ?_
                  refine ex_bne rfl (fun h8 => ?_) (fun h8 => ?_)
                  · refine ex_st 6 (pc' := 24) (ls' := [(0, xr 104), (1, xi 1), (2, xi 3), (3, xi 1), (4, xi 2)]) (st' := [xi 10, xr 1003]) rfl ?_
                    refine ex_cald (v := 11) (j := 10) rfl (by decide) rfl (by decide) (by decide) (by decide) (rfl) ?_
                    refine ex_st 3 (pc' := 30) (ls' := [(5, xi 11), (0, xr 104), (1, xi 1), (2, xi 3), (3, xi 1), (4, xi 2)]) (st' := [xi 11, xr 104]) rfl ?_
                    refine ex_call (ct_A_note2 (b := 11) (by decide)) (by decide) rfl ⟨rfl, rfl, rfl⟩ ⟨Nat.le_of_ble_eq_true rfl, rfl, rfl⟩ (Nat.le_of_ble_eq_true rfl) rfl ?_
                    refine ex_st 5 (pc' := 41) (ls' := [(6, xi 3), (5, xi 11), (0, xr 104), (1, xi 1), (2, xi 3), (3, xi 1), (4, xi 2)]) (st' := [xi 11]) rfl ?_
                    refine ex_st 1 (pc' := 147) (ls' := [(6, xi 3), (5, xi 11), (0, xr 104), (1, xi 1), (2, xi 3), (3, xi 1), (4, xi 2)]) (st' := []) rfl ?_
                    refine ex_st 4 (pc' := 153) (ls' := [(6, xi 3), (5, xi 11), (0, xr 104), (1, xi 1), (2, xi 3), (3, xi 1), (4, xi 2)]) (st' := [xi ((wC (aJ I 6 v (↑n)) [40, 12, 70, 11, 71, 10, 10, 70, 11]) 104 2), xi 0, xr 104]) rfl ?_
                    rw [wC_f (by decide), aJ_2]
                    refine ex_st 2 (pc' := 156) (ls' := [(6, xi 3), (5, xi 11), (0, xr 104), (1, xi 1), (2, xi 3), (3, xi 1), (4, xi 2)]) (st' := [xi 3, xi 1, xi 6, xi 0, xr 104]) rfl ?_
                    refine ex_inl (M' := xM_A_run) (as := [xr 104, xi 0, xi 6, xi 1, xi 3]) (rest := []) (D' := 15) rfl (Nat.le_of_ble_eq_true rfl) (by decide) rfl ⟨rfl, rfl, rfl⟩ ⟨Nat.le_of_ble_eq_true rfl, rfl, rfl⟩ (Nat.le_of_ble_eq_true rfl) rfl ?_
                    refine ex_st 2 (pc' := 4) (ls' := [(0, xr 104), (1, xi 0), (2, xi 6), (3, xi 1), (4, xi 3)]) (st' := [xi 20, xi 3]) rfl ?_
                    refine ex_st 1 (pc' := 7) (ls' := [(0, xr 104), (1, xi 0), (2, xi 6), (3, xi 1), (4, xi 3)]) (st' := []) rfl ?_
                    refine ex_st 1 (pc' := 8) (ls' := [(0, xr 104), (1, xi 0), (2, xi 6), (3, xi 1), (4, xi 3)]) (st' := [xi 6]) rfl ?_
                    refine ex_call (ct_G_isKind (by decide)) (by decide) rfl ⟨rfl, rfl, rfl⟩ ⟨Nat.le_of_ble_eq_true rfl, rfl, rfl⟩ (Nat.le_of_ble_eq_true rfl) rfl ?_
                    refine ex_bne rfl (fun h9 => ?_) (fun h9 => ?_)
                    · refine ex_st 6 (pc' := 24) (ls' := [(0, xr 104), (1, xi 0), (2, xi 6), (3, xi 1), (4, xi 3)]) (st' := [xi 18, xr 1003]) rfl ?_
                      refine ex_cald (v := 71) (j := 18) rfl (by decide) rfl (by decide) (by decide) (by decide) (rfl) ?_
                      refine ex_st 3 (pc' := 30) (ls' := [(5, xi 71), (0, xr 104), (1, xi 0), (2, xi 6), (3, xi 1), (4, xi 3)]) (st' := [xi 71, xr 104]) rfl ?_
                      refine ex_call (ct_A_note2 (b := 71) (by decide)) (by decide) rfl ⟨rfl, rfl, rfl⟩ ⟨Nat.le_of_ble_eq_true rfl, rfl, rfl⟩ (Nat.le_of_ble_eq_true rfl) rfl ?_
                      refine ex_st 5 (pc' := 41) (ls' := [(6, xi 4), (5, xi 71), (0, xr 104), (1, xi 0), (2, xi 6), (3, xi 1), (4, xi 3)]) (st' := [xi 71]) rfl ?_
                      refine ex_st 1 (pc' := 286) (ls' := [(6, xi 4), (5, xi 71), (0, xr 104), (1, xi 0), (2, xi 6), (3, xi 1), (4, xi 3)]) (st' := []) rfl ?_
                      refine ex_st 5 (pc' := 292) (ls' := [(6, xi 4), (5, xi 71), (0, xr 104), (1, xi 0), (2, xi 6), (3, xi 1), (4, xi 3)]) (st' := [xi 4, xi 1, xi 3, xi 0, xr 104]) rfl ?_
                      refine ex_inl (M' := xM_A_run) (as := [xr 104, xi 0, xi 3, xi 1, xi 4]) (rest := []) (D' := 14) rfl (Nat.le_of_ble_eq_true rfl) (by decide) rfl ⟨rfl, rfl, rfl⟩ ⟨Nat.le_of_ble_eq_true rfl, rfl, rfl⟩ (Nat.le_of_ble_eq_true rfl) rfl ?_
                      refine ex_st 2 (pc' := 4) (ls' := [(0, xr 104), (1, xi 0), (2, xi 3), (3, xi 1), (4, xi 4)]) (st' := [xi 20, xi 4]) rfl ?_
                      refine ex_st 1 (pc' := 7) (ls' := [(0, xr 104), (1, xi 0), (2, xi 3), (3, xi 1), (4, xi 4)]) (st' := []) rfl ?_
                      refine ex_st 1 (pc' := 8) (ls' := [(0, xr 104), (1, xi 0), (2, xi 3), (3, xi 1), (4, xi 4)]) (st' := [xi 3]) rfl ?_
                      refine ex_call (ct_G_isKind (by decide)) (by decide) rfl ⟨rfl, rfl, rfl⟩ ⟨Nat.le_of_ble_eq_true rfl, rfl, rfl⟩ (Nat.le_of_ble_eq_true rfl) rfl ?_
                      refine ex_bne rfl (fun h10 => ?_) (fun h10 => ?_)
                      · refine ex_st 6 (pc' := 24) (ls' := [(0, xr 104), (1, xi 0), (2, xi 3), (3, xi 1), (4, xi 4)]) (st' := [xi 9, xr 1003]) rfl ?_
                        refine ex_cald (v := 10) (j := 9) rfl (by decide) rfl (by decide) (by decide) (by decide) (rfl) ?_
                        refine ex_st 3 (pc' := 30) (ls' := [(5, xi 10), (0, xr 104), (1, xi 0), (2, xi 3), (3, xi 1), (4, xi 4)]) (st' := [xi 10, xr 104]) rfl ?_
                        refine ex_call (ct_A_note2 (b := 10) (by decide)) (by decide) rfl ⟨rfl, rfl, rfl⟩ ⟨Nat.le_of_ble_eq_true rfl, rfl, rfl⟩ (Nat.le_of_ble_eq_true rfl) rfl ?_
                        refine ex_st 5 (pc' := 41) (ls' := [(6, xi 5), (5, xi 10), (0, xr 104), (1, xi 0), (2, xi 3), (3, xi 1), (4, xi 4)]) (st' := [xi 10]) rfl ?_
                        refine ex_st 1 (pc' := 140) (ls' := [(6, xi 5), (5, xi 10), (0, xr 104), (1, xi 0), (2, xi 3), (3, xi 1), (4, xi 4)]) (st' := []) rfl ?_
                        refine ex_st 3 (pc' := 145) (ls' := [(6, xi 5), (5, xi 10), (0, xr 104), (1, xi 0), (2, xi 3), (3, xi 1), (4, xi 4)]) (st' := [xi ((wC (aJ I 6 v (↑n)) [40, 12, 70, 11, 71, 10, 10, 70, 11, 71, 10]) 104 4), xi 1]) rfl ?_
                        rw [wC_f (by decide), aJ_4]
                        refine ex_st 1 (pc' := 146) (ls' := [(6, xi 5), (5, xi 10), (0, xr 104), (1, xi 0), (2, xi 3), (3, xi 1), (4, xi 4)]) (st' := [xi (1 + (↑n))]) rfl ?_
                        refine ex_reti rfl rfl ?_
                        refine ex_st 2 (pc' := 299) (ls' := [(6, xi 4), (5, xi 71), (0, xr 104), (1, xi 0), (2, xi 6), (3, xi 1), (4, xi 3)]) (st' := [xi ((wC (aJ I 6 v (↑n)) [40, 12, 70, 11, 71, 10, 10, 70, 11, 71, 10]) 104 3), xi (1 + (↑n))]) rfl ?_
                        rw [wC_f (by decide), aJ_3]
                        refine ex_ixor rfl ?_
                        generalize hzx2 : z_xor (1 + (↑n)) v = zx2
                        refine ex_reti rfl rfl ?_
                        refine ex_st 2 (pc' := 163) (ls' := [(6, xi 3), (5, xi 11), (0, xr 104), (1, xi 1), (2, xi 3), (3, xi 1), (4, xi 2)]) (st' := [xi ((wC (aJ I 6 v (↑n)) [40, 12, 70, 11, 71, 10, 10, 70, 11, 71, 10]) 104 3), xi zx2]) rfl ?_
                        rw [wC_f (by decide), aJ_3]
                        refine ex_st 1 (pc' := 164) (ls' := [(6, xi 3), (5, xi 11), (0, xr 104), (1, xi 1), (2, xi 3), (3, xi 1), (4, xi 2)]) (st' := [xi (zx2 - v)]) rfl ?_
                        refine ex_reti rfl rfl ?_
                        refine ex_st 5 (pc' := 281) (ls' := [(6, xi 2), (5, xi 70), (0, xr 104), (1, xi 1), (2, xi 6), (3, xi 1), (4, xi 1)]) (st' := [xi 2, xi 2, xi 3, xi 0, xr 104, xi (zx2 - v)]) rfl ?_
                        refine ex_inl (M' := xM_A_run) (as := [xr 104, xi 0, xi 3, xi 2, xi 2]) (rest := [xi (zx2 - v)]) (D' := 16) rfl (Nat.le_of_ble_eq_true rfl) (by decide) rfl ⟨rfl, rfl, rfl⟩ ⟨Nat.le_of_ble_eq_true rfl, rfl, rfl⟩ (Nat.le_of_ble_eq_true rfl) rfl ?_
                        refine ex_st 2 (pc' := 4) (ls' := [(0, xr 104), (1, xi 0), (2, xi 3), (3, xi 2), (4, xi 2)]) (st' := [xi 20, xi 2]) rfl ?_
                        refine ex_st 1 (pc' := 7) (ls' := [(0, xr 104), (1, xi 0), (2, xi 3), (3, xi 2), (4, xi 2)]) (st' := []) rfl ?_
                        refine ex_st 1 (pc' := 8) (ls' := [(0, xr 104), (1, xi 0), (2, xi 3), (3, xi 2), (4, xi 2)]) (st' := [xi 3]) rfl ?_
                        refine ex_call (ct_G_isKind (by decide)) (by decide) rfl ⟨rfl, rfl, rfl⟩ ⟨Nat.le_of_ble_eq_true rfl, rfl, rfl⟩ (Nat.le_of_ble_eq_true rfl) rfl ?_
                        refine ex_bne rfl (fun h11 => ?_) (fun h11 => ?_)
                        · refine ex_st 6 (pc' := 24) (ls' := [(0, xr 104), (1, xi 0), (2, xi 3), (3, xi 2), (4, xi 2)]) (st' := [xi 9, xr 1003]) rfl ?_
                          refine ex_cald (v := 10) (j := 9) rfl (by decide) rfl (by decide) (by decide) (by decide) (rfl) ?_
                          refine ex_st 3 (pc' := 30) (ls' := [(5, xi 10), (0, xr 104), (1, xi 0), (2, xi 3), (3, xi 2), (4, xi 2)]) (st' := [xi 10, xr 104]) rfl ?_
                          refine ex_call (ct_A_note2 (b := 10) (by decide)) (by decide) rfl ⟨rfl, rfl, rfl⟩ ⟨Nat.le_of_ble_eq_true rfl, rfl, rfl⟩ (Nat.le_of_ble_eq_true rfl) rfl ?_
                          refine ex_st 5 (pc' := 41) (ls' := [(6, xi 3), (5, xi 10), (0, xr 104), (1, xi 0), (2, xi 3), (3, xi 2), (4, xi 2)]) (st' := [xi 10]) rfl ?_
                          refine ex_st 1 (pc' := 140) (ls' := [(6, xi 3), (5, xi 10), (0, xr 104), (1, xi 0), (2, xi 3), (3, xi 2), (4, xi 2)]) (st' := []) rfl ?_
                          refine ex_st 3 (pc' := 145) (ls' := [(6, xi 3), (5, xi 10), (0, xr 104), (1, xi 0), (2, xi 3), (3, xi 2), (4, xi 2)]) (st' := [xi ((wC (aJ I 6 v (↑n)) [40, 12, 70, 11, 71, 10, 10, 70, 11, 71, 10, 10]) 104 4), xi 2]) rfl ?_
                          rw [wC_f (by decide), aJ_4]
                          refine ex_st 1 (pc' := 146) (ls' := [(6, xi 3), (5, xi 10), (0, xr 104), (1, xi 0), (2, xi 3), (3, xi 2), (4, xi 2)]) (st' := [xi (2 + (↑n))]) rfl ?_
                          refine ex_reti rfl rfl ?_
                          refine ex_st 1 (pc' := 285) (ls' := [(6, xi 2), (5, xi 70), (0, xr 104), (1, xi 1), (2, xi 6), (3, xi 1), (4, xi 1)]) (st' := [xi ((zx2 - v) + (2 + (↑n)))]) rfl ?_
                          refine ex_reti rfl rfl ?_
                          refine ex_st 1 (pc' := 227) (ls' := [(6, xi 1), (5, xi 40), (0, xr 104), (1, xi 2), (2, xi 6), (3, xi x), (4, xi 0)]) (st' := [xi ((((zx1 - v) + (2 + (↑n))) * 2) + ((zx2 - v) + (2 + (↑n))))]) rfl ?_
                          refine ex_reti rfl rfl ?_
                          refine ex_reti rfl rfl ?_
                          subst hzx2
                          subst hzx1
                          exact ⟨rfl, rfl⟩
                        · exfalso; omega
                      · exfalso; omega
                    · exfalso; omega
                  · exfalso; omega
                · exfalso; omega
              · exfalso; omega
            · exfalso; omega
          · exfalso; omega
        · exfalso; omega
      · exfalso; omega
    · exfalso; omega
  · exfalso; omega
set_option maxRecDepth 8000 in
set_option maxHeartbeats 4000000 in
theorem op_act_0_0 {sc : List Int} {I : Nat → Nat → Int} {L : Nat → Nat → Int64} (hR : Rl I L) {n : Nat} {x : Int} (hv : (n : Int) < I 1 1) (hq : I 144 n = 0) : x_PQ sc xN_G_act [xr 0, xi (↑n), xi 0, xi x] xN_m_act [xr 143, xi (↑n), xi 0, xi x] (xSH, I, L) := by
  obtain ⟨⟨hNs, hNo, hNa, hNb, hNr, hNd, hNg, hNe, hNp, hNk⟩, hI, hT, hX, hC, hH, hQ⟩ := id hR
  have hs := hNs
  unfold RNs at hs
  have ho := hNo n (by omega)
  have hq2 : I (11 + 3 * n) 0 = 0 := by omega
  refine x_CQ.of (M := xM_G_act) rfl (Nat.le_of_ble_eq_true rfl) ?_
  refine ex_st 2 (pc' := 2) (ls' := [(0, xr 0), (1, xi (↑n)), (2, xi 0), (3, xi x)]) (st' := [xi (↑n), xr 0]) rfl ?_
  refine ex_call (ct_G_isOfficial2 (c := I 1 1) (by first | omega | (constructor <;> omega) | assumption | ((repeat rw [x_up_far (by omega)]); first | rfl | omega | (constructor <;> omega))) (by (repeat rw [x_up_far (by omega)]); try rfl) (by first | omega | (constructor <;> omega) | assumption | ((repeat rw [x_up_far (by omega)]); first | rfl | omega | (constructor <;> omega)))) (by decide) rfl ⟨rfl, rfl, rfl⟩ ⟨Nat.le_of_ble_eq_true rfl, rfl, rfl⟩ (Nat.le_of_ble_eq_true rfl) rfl ?_
  refine ex_beq rfl (fun h0 => ?_) (fun h0 => ?_)
  · exfalso; omega
  · refine ex_st 1 (pc' := 9) (ls' := [(0, xr 0), (1, xi (↑n)), (2, xi 0), (3, xi x)]) (st' := [xi 0]) rfl ?_
    refine ex_st 1 (pc' := 12) (ls' := [(0, xr 0), (1, xi (↑n)), (2, xi 0), (3, xi x)]) (st' := []) rfl ?_
    refine ex_st 2 (pc' := 14) (ls' := [(0, xr 0), (1, xi (↑n)), (2, xi 0), (3, xi x)]) (st' := [xi 2, xi 0]) rfl ?_
    refine ex_st 1 (pc' := 27) (ls' := [(0, xr 0), (1, xi (↑n)), (2, xi 0), (3, xi x)]) (st' := []) rfl ?_
    refine ex_st 4 (pc' := 35) (ls' := [(0, xr 0), (1, xi (↑n)), (2, xi 0), (3, xi x)]) (st' := [xi (↑n), xr 2]) rfl ?_
    refine ex_aald (q := 11 + 3 * n) (j := n) rfl (by decide) (rfl : xSH[2]? = some _) (by decide) (by omega) (by omega) (by decide) (x_aa2 n (by omega)) (by omega) ?_
    refine ex_st 7 (pc' := 47) (ls' := [(4, xr (11 + 3 * n)), (0, xr 0), (1, xi (↑n)), (2, xi 0), (3, xi x)]) (st' := [xi x, xr (11 + 3 * n), xi (↑n), xi 0, xr 104]) rfl ?_
    refine ex_call (ct_A_begin_0_0 (L := L) (n := n) (x := x) (v := I 145 n) (by omega) hq2 ho.2.2.2.1) (by decide) rfl ⟨rfl, rfl, rfl⟩ ⟨Nat.le_of_ble_eq_true rfl, rfl, rfl⟩ (Nat.le_of_ble_eq_true rfl) rfl ?_
    refine ex_reti rfl rfl ?_
    refine x_CQ.of (M := xM_m_act) rfl (Nat.le_of_ble_eq_true rfl) ?_
    refine ex_st 2 (pc' := 2) (ls' := [(0, xr 143), (1, xi (↑n)), (2, xi 0), (3, xi x)]) (st' := [xi 0, xr 143]) rfl ?_
    refine ex_pfi rfl (by decide) (rfl : xSH[143]? = some _) (by decide) rfl (by decide) (fun h => by cases h) ?_
    rw [wM_beg]
    refine ex_st 2 (pc' := 7) (ls' := [(0, xr 143), (1, xi (↑n)), (2, xi 0), (3, xi x)]) (st' := [xi (↑n), xr 143]) rfl ?_
    refine ex_call (ct_m_isOfficial2 (c := I 143 0) (by constructor <;> omega) (by rw [wM_f (by omega), wC_f (by omega), aJ_f (by omega)]) (by omega)) (by decide) rfl ⟨rfl, rfl, rfl⟩ ⟨Nat.le_of_ble_eq_true rfl, rfl, rfl⟩ (Nat.le_of_ble_eq_true rfl) rfl ?_
    refine ex_beq rfl (fun h1 => ?_) (fun h1 => ?_)
    · exfalso; omega
    · refine ex_st 4 (pc' := 17) (ls' := [(0, xr 143), (1, xi (↑n)), (2, xi 0), (3, xi x)]) (st' := [xi 2, xi 0, xi 0, xr 143]) rfl ?_
      refine ex_call (ct_m_in (by first | omega | (constructor <;> omega) | assumption) (by first | omega | (constructor <;> omega) | assumption) (by first | omega | (constructor <;> omega) | assumption)) (by decide) rfl ⟨rfl, rfl, rfl⟩ ⟨Nat.le_of_ble_eq_true rfl, rfl, rfl⟩ (Nat.le_of_ble_eq_true rfl) rfl ?_
      refine ex_bne rfl (fun h2 => ?_) (fun h2 => ?_)
      · refine ex_st 1 (pc' := 26) (ls' := [(0, xr 143), (1, xi (↑n)), (2, xi 0), (3, xi x)]) (st' := [xi 0]) rfl ?_
        refine ex_st 1 (pc' := 29) (ls' := [(0, xr 143), (1, xi (↑n)), (2, xi 0), (3, xi x)]) (st' := []) rfl ?_
        refine ex_st 3 (pc' := 32) (ls' := [(0, xr 143), (1, xi (↑n)), (2, xi 0), (3, xi x)]) (st' := [xi x, xi (↑n), xr 143]) rfl ?_
        refine ex_inl (M' := xM_m_clucksAct) (as := [xr 143, xi (↑n), xi x]) (rest := []) (D' := 28) rfl (Nat.le_of_ble_eq_true rfl) (by decide) rfl ⟨rfl, rfl, rfl⟩ ⟨Nat.le_of_ble_eq_true rfl, rfl, rfl⟩ (Nat.le_of_ble_eq_true rfl) rfl ?_
        refine ex_st 3 (pc' := 5) (ls' := [(0, xr 143), (1, xi (↑n)), (2, xi x)]) (st' := [xi (↑n), xr 144]) rfl ?_
        refine ex_iald (j := n) rfl (by decide) (rfl : xSH[144]? = some _) (by omega) (by omega) (by decide) ?_
        rw [wM_f (by omega), wC_f (by omega), aJ_f (by omega), hq]
        refine ex_st 1 (pc' := 89) (ls' := [(0, xr 143), (1, xi (↑n)), (2, xi x)]) (st' := []) rfl ?_
        refine ex_st 3 (pc' := 92) (ls' := [(0, xr 143), (1, xi (↑n)), (2, xi x)]) (st' := [xi x, xi (↑n), xr 143]) rfl ?_
        refine ex_inl (M' := xM_m_officialClucks) (as := [xr 143, xi (↑n), xi x]) (rest := []) (D' := 27) rfl (Nat.le_of_ble_eq_true rfl) (by decide) rfl ⟨rfl, rfl, rfl⟩ ⟨Nat.le_of_ble_eq_true rfl, rfl, rfl⟩ (Nat.le_of_ble_eq_true rfl) rfl ?_
        refine ex_st 2 (pc' := 3) (ls' := [(0, xr 143), (1, xi (↑n)), (2, xi x)]) (st' := [xi 10, xr 143]) rfl ?_
        refine ex_call (ct_m_body (b := 10) (by decide)) (by decide) rfl ⟨rfl, rfl, rfl⟩ ⟨Nat.le_of_ble_eq_true rfl, rfl, rfl⟩ (Nat.le_of_ble_eq_true rfl) rfl ?_
        refine ex_st 3 (pc' := 9) (ls' := [(0, xr 143), (1, xi (↑n)), (2, xi x)]) (st' := [xi (x + (↑n))]) rfl ?_
        refine ex_reti rfl rfl ?_
        refine ex_reti rfl rfl ?_
        refine ex_st 1 (pc' := 58) (ls' := [(0, xr 143), (1, xi (↑n)), (2, xi 0), (3, xi x)]) (st' := [xi (x + (↑n))]) rfl ?_
        refine ex_reti rfl rfl ?_
        exact ⟨x_req (by first | rfl | omega | (congr 1; omega)), _, _, rfl, Rl.act hR (by decide)⟩
      · exfalso; omega
set_option maxRecDepth 8000 in
set_option maxHeartbeats 4000000 in
theorem op_act_0_1 {sc : List Int} {I : Nat → Nat → Int} {L : Nat → Nat → Int64} (hR : Rl I L) {n : Nat} {x : Int} (hv : (n : Int) < I 1 1) (hq : I 144 n = 0) : x_PQ sc xN_G_act [xr 0, xi (↑n), xi 1, xi x] xN_m_act [xr 143, xi (↑n), xi 1, xi x] (xSH, I, L) := by
  obtain ⟨⟨hNs, hNo, hNa, hNb, hNr, hNd, hNg, hNe, hNp, hNk⟩, hI, hT, hX, hC, hH, hQ⟩ := id hR
  have hs := hNs
  unfold RNs at hs
  have ho := hNo n (by omega)
  have hq2 : I (11 + 3 * n) 0 = 0 := by omega
  refine x_CQ.of (M := xM_G_act) rfl (Nat.le_of_ble_eq_true rfl) ?_
  refine ex_st 2 (pc' := 2) (ls' := [(0, xr 0), (1, xi (↑n)), (2, xi 1), (3, xi x)]) (st' := [xi (↑n), xr 0]) rfl ?_
  refine ex_call (ct_G_isOfficial2 (c := I 1 1) (by first | omega | (constructor <;> omega) | assumption | ((repeat rw [x_up_far (by omega)]); first | rfl | omega | (constructor <;> omega))) (by (repeat rw [x_up_far (by omega)]); try rfl) (by first | omega | (constructor <;> omega) | assumption | ((repeat rw [x_up_far (by omega)]); first | rfl | omega | (constructor <;> omega)))) (by decide) rfl ⟨rfl, rfl, rfl⟩ ⟨Nat.le_of_ble_eq_true rfl, rfl, rfl⟩ (Nat.le_of_ble_eq_true rfl) rfl ?_
  refine ex_beq rfl (fun h0 => ?_) (fun h0 => ?_)
  · exfalso; omega
  · refine ex_st 1 (pc' := 9) (ls' := [(0, xr 0), (1, xi (↑n)), (2, xi 1), (3, xi x)]) (st' := [xi 1]) rfl ?_
    refine ex_st 1 (pc' := 12) (ls' := [(0, xr 0), (1, xi (↑n)), (2, xi 1), (3, xi x)]) (st' := []) rfl ?_
    refine ex_st 2 (pc' := 14) (ls' := [(0, xr 0), (1, xi (↑n)), (2, xi 1), (3, xi x)]) (st' := [xi 2, xi 1]) rfl ?_
    refine ex_st 1 (pc' := 27) (ls' := [(0, xr 0), (1, xi (↑n)), (2, xi 1), (3, xi x)]) (st' := []) rfl ?_
    refine ex_st 4 (pc' := 35) (ls' := [(0, xr 0), (1, xi (↑n)), (2, xi 1), (3, xi x)]) (st' := [xi (↑n), xr 2]) rfl ?_
    refine ex_aald (q := 11 + 3 * n) (j := n) rfl (by decide) (rfl : xSH[2]? = some _) (by decide) (by omega) (by omega) (by decide) (x_aa2 n (by omega)) (by omega) ?_
    refine ex_st 7 (pc' := 47) (ls' := [(4, xr (11 + 3 * n)), (0, xr 0), (1, xi (↑n)), (2, xi 1), (3, xi x)]) (st' := [xi x, xr (11 + 3 * n), xi (↑n), xi 1, xr 104]) rfl ?_
    refine ex_call (ct_A_begin_0_1 (L := L) (n := n) (x := x) (v := I 145 n) (by omega) hq2 ho.2.2.2.1) (by decide) rfl ⟨rfl, rfl, rfl⟩ ⟨Nat.le_of_ble_eq_true rfl, rfl, rfl⟩ (Nat.le_of_ble_eq_true rfl) rfl ?_
    refine ex_reti rfl rfl ?_
    refine x_CQ.of (M := xM_m_act) rfl (Nat.le_of_ble_eq_true rfl) ?_
    refine ex_st 2 (pc' := 2) (ls' := [(0, xr 143), (1, xi (↑n)), (2, xi 1), (3, xi x)]) (st' := [xi 0, xr 143]) rfl ?_
    refine ex_pfi rfl (by decide) (rfl : xSH[143]? = some _) (by decide) rfl (by decide) (fun h => by cases h) ?_
    rw [wM_beg]
    refine ex_st 2 (pc' := 7) (ls' := [(0, xr 143), (1, xi (↑n)), (2, xi 1), (3, xi x)]) (st' := [xi (↑n), xr 143]) rfl ?_
    refine ex_call (ct_m_isOfficial2 (c := I 143 0) (by constructor <;> omega) (by rw [wM_f (by omega), wC_f (by omega), aJ_f (by omega)]) (by omega)) (by decide) rfl ⟨rfl, rfl, rfl⟩ ⟨Nat.le_of_ble_eq_true rfl, rfl, rfl⟩ (Nat.le_of_ble_eq_true rfl) rfl ?_
    refine ex_beq rfl (fun h1 => ?_) (fun h1 => ?_)
    · exfalso; omega
    · refine ex_st 4 (pc' := 17) (ls' := [(0, xr 143), (1, xi (↑n)), (2, xi 1), (3, xi x)]) (st' := [xi 2, xi 0, xi 1, xr 143]) rfl ?_
      refine ex_call (ct_m_in (by first | omega | (constructor <;> omega) | assumption) (by first | omega | (constructor <;> omega) | assumption) (by first | omega | (constructor <;> omega) | assumption)) (by decide) rfl ⟨rfl, rfl, rfl⟩ ⟨Nat.le_of_ble_eq_true rfl, rfl, rfl⟩ (Nat.le_of_ble_eq_true rfl) rfl ?_
      refine ex_bne rfl (fun h2 => ?_) (fun h2 => ?_)
      · refine ex_st 1 (pc' := 26) (ls' := [(0, xr 143), (1, xi (↑n)), (2, xi 1), (3, xi x)]) (st' := [xi 1]) rfl ?_
        refine ex_st 1 (pc' := 38) (ls' := [(0, xr 143), (1, xi (↑n)), (2, xi 1), (3, xi x)]) (st' := []) rfl ?_
        refine ex_st 2 (pc' := 40) (ls' := [(0, xr 143), (1, xi (↑n)), (2, xi 1), (3, xi x)]) (st' := [xi 1, xi 1]) rfl ?_
        refine ex_st 1 (pc' := 43) (ls' := [(0, xr 143), (1, xi (↑n)), (2, xi 1), (3, xi x)]) (st' := []) rfl ?_
        refine ex_st 3 (pc' := 46) (ls' := [(0, xr 143), (1, xi (↑n)), (2, xi 1), (3, xi x)]) (st' := [xi x, xi (↑n), xr 143]) rfl ?_
        refine ex_inl (M' := xM_m_looksAct) (as := [xr 143, xi (↑n), xi x]) (rest := []) (D' := 28) rfl (Nat.le_of_ble_eq_true rfl) (by decide) rfl ⟨rfl, rfl, rfl⟩ ⟨Nat.le_of_ble_eq_true rfl, rfl, rfl⟩ (Nat.le_of_ble_eq_true rfl) rfl ?_
        refine ex_st 3 (pc' := 5) (ls' := [(0, xr 143), (1, xi (↑n)), (2, xi x)]) (st' := [xi (↑n), xr 144]) rfl ?_
        refine ex_iald (j := n) rfl (by decide) (rfl : xSH[144]? = some _) (by omega) (by omega) (by decide) ?_
        rw [wM_f (by omega), wC_f (by omega), aJ_f (by omega), hq]
        refine ex_st 1 (pc' := 84) (ls' := [(0, xr 143), (1, xi (↑n)), (2, xi x)]) (st' := []) rfl ?_
        refine ex_st 3 (pc' := 87) (ls' := [(0, xr 143), (1, xi (↑n)), (2, xi x)]) (st' := [xi x, xi (↑n), xr 143]) rfl ?_
        refine ex_inl (M' := xM_m_officialLooks) (as := [xr 143, xi (↑n), xi x]) (rest := []) (D' := 27) rfl (Nat.le_of_ble_eq_true rfl) (by decide) rfl ⟨rfl, rfl, rfl⟩ ⟨Nat.le_of_ble_eq_true rfl, rfl, rfl⟩ (Nat.le_of_ble_eq_true rfl) rfl ?_
        refine ex_st 2 (pc' := 3) (ls' := [(0, xr 143), (1, xi (↑n)), (2, xi x)]) (st' := [xi 11, xr 143]) rfl ?_
        refine ex_call (ct_m_body (b := 11) (by decide)) (by decide) rfl ⟨rfl, rfl, rfl⟩ ⟨Nat.le_of_ble_eq_true rfl, rfl, rfl⟩ (Nat.le_of_ble_eq_true rfl) rfl ?_
        refine ex_st 3 (pc' := 9) (ls' := [(0, xr 143), (1, xi (↑n)), (2, xi x)]) (st' := [xi x, xi (↑n), xr 143]) rfl ?_
        refine ex_inl (M' := xM_m_clucksAct) (as := [xr 143, xi (↑n), xi x]) (rest := []) (D' := 26) rfl (Nat.le_of_ble_eq_true rfl) (by decide) rfl ⟨rfl, rfl, rfl⟩ ⟨Nat.le_of_ble_eq_true rfl, rfl, rfl⟩ (Nat.le_of_ble_eq_true rfl) rfl ?_
        refine ex_st 3 (pc' := 5) (ls' := [(0, xr 143), (1, xi (↑n)), (2, xi x)]) (st' := [xi (↑n), xr 144]) rfl ?_
        refine ex_iald (j := n) rfl (by decide) (rfl : xSH[144]? = some _) (by omega) (by omega) (by decide) ?_
        rw [wM_f (by omega), wC_f (by omega), aJ_f (by omega), hq]
        refine ex_st 1 (pc' := 89) (ls' := [(0, xr 143), (1, xi (↑n)), (2, xi x)]) (st' := []) rfl ?_
        refine ex_st 3 (pc' := 92) (ls' := [(0, xr 143), (1, xi (↑n)), (2, xi x)]) (st' := [xi x, xi (↑n), xr 143]) rfl ?_
        refine ex_inl (M' := xM_m_officialClucks) (as := [xr 143, xi (↑n), xi x]) (rest := []) (D' := 25) rfl (Nat.le_of_ble_eq_true rfl) (by decide) rfl ⟨rfl, rfl, rfl⟩ ⟨Nat.le_of_ble_eq_true rfl, rfl, rfl⟩ (Nat.le_of_ble_eq_true rfl) rfl ?_
        refine ex_st 2 (pc' := 3) (ls' := [(0, xr 143), (1, xi (↑n)), (2, xi x)]) (st' := [xi 10, xr 143]) rfl ?_
        refine ex_call (ct_m_body (b := 10) (by decide)) (by decide) rfl ⟨rfl, rfl, rfl⟩ ⟨Nat.le_of_ble_eq_true rfl, rfl, rfl⟩ (Nat.le_of_ble_eq_true rfl) rfl ?_
        refine ex_st 3 (pc' := 9) (ls' := [(0, xr 143), (1, xi (↑n)), (2, xi x)]) (st' := [xi (x + (↑n))]) rfl ?_
        refine ex_reti rfl rfl ?_
        refine ex_reti rfl rfl ?_
        refine ex_st 3 (pc' := 17) (ls' := [(0, xr 143), (1, xi (↑n)), (2, xi x)]) (st' := [xi (↑n), xr 145, xi (x + (↑n))]) rfl ?_
        refine ex_iald (j := n) rfl (by decide) (rfl : xSH[145]? = some _) (by omega) (by omega) (by decide) ?_
        rw [wM_f (by omega), wC_f (by omega), aJ_f (by omega)]
        refine ex_st 1 (pc' := 19) (ls' := [(0, xr 143), (1, xi (↑n)), (2, xi x)]) (st' := [xi ((x + (↑n)) - (I 145 n))]) rfl ?_
        refine ex_reti rfl rfl ?_
        refine ex_reti rfl rfl ?_
        refine ex_st 1 (pc' := 58) (ls' := [(0, xr 143), (1, xi (↑n)), (2, xi 1), (3, xi x)]) (st' := [xi ((x + (↑n)) - (I 145 n))]) rfl ?_
        refine ex_reti rfl rfl ?_
        exact ⟨x_req (by first | rfl | omega | (congr 1; omega)), _, _, rfl, Rl.act hR (by decide)⟩
      · exfalso; omega
set_option maxRecDepth 8000 in
set_option maxHeartbeats 4000000 in
theorem op_act_0_2 {sc : List Int} {I : Nat → Nat → Int} {L : Nat → Nat → Int64} (hR : Rl I L) {n : Nat} {x : Int} (hv : (n : Int) < I 1 1) (hq : I 144 n = 0) : x_PQ sc xN_G_act [xr 0, xi (↑n), xi 2, xi x] xN_m_act [xr 143, xi (↑n), xi 2, xi x] (xSH, I, L) := by
  obtain ⟨⟨hNs, hNo, hNa, hNb, hNr, hNd, hNg, hNe, hNp, hNk⟩, hI, hT, hX, hC, hH, hQ⟩ := id hR
  have hs := hNs
  unfold RNs at hs
  have ho := hNo n (by omega)
  have hq2 : I (11 + 3 * n) 0 = 0 := by omega
  refine x_CQ.of (M := xM_G_act) rfl (Nat.le_of_ble_eq_true rfl) ?_
  refine ex_st 2 (pc' := 2) (ls' := [(0, xr 0), (1, xi (↑n)), (2, xi 2), (3, xi x)]) (st' := [xi (↑n), xr 0]) rfl ?_
  refine ex_call (ct_G_isOfficial2 (c := I 1 1) (by first | omega | (constructor <;> omega) | assumption | ((repeat rw [x_up_far (by omega)]); first | rfl | omega | (constructor <;> omega))) (by (repeat rw [x_up_far (by omega)]); try rfl) (by first | omega | (constructor <;> omega) | assumption | ((repeat rw [x_up_far (by omega)]); first | rfl | omega | (constructor <;> omega)))) (by decide) rfl ⟨rfl, rfl, rfl⟩ ⟨Nat.le_of_ble_eq_true rfl, rfl, rfl⟩ (Nat.le_of_ble_eq_true rfl) rfl ?_
  refine ex_beq rfl (fun h0 => ?_) (fun h0 => ?_)
  · exfalso; omega
  · refine ex_st 1 (pc' := 9) (ls' := [(0, xr 0), (1, xi (↑n)), (2, xi 2), (3, xi x)]) (st' := [xi 2]) rfl ?_
    refine ex_st 1 (pc' := 12) (ls' := [(0, xr 0), (1, xi (↑n)), (2, xi 2), (3, xi x)]) (st' := []) rfl ?_
    refine ex_st 2 (pc' := 14) (ls' := [(0, xr 0), (1, xi (↑n)), (2, xi 2), (3, xi x)]) (st' := [xi 2, xi 2]) rfl ?_
    refine ex_st 1 (pc' := 27) (ls' := [(0, xr 0), (1, xi (↑n)), (2, xi 2), (3, xi x)]) (st' := []) rfl ?_
    refine ex_st 4 (pc' := 35) (ls' := [(0, xr 0), (1, xi (↑n)), (2, xi 2), (3, xi x)]) (st' := [xi (↑n), xr 2]) rfl ?_
    refine ex_aald (q := 11 + 3 * n) (j := n) rfl (by decide) (rfl : xSH[2]? = some _) (by decide) (by omega) (by omega) (by decide) (x_aa2 n (by omega)) (by omega) ?_
    refine ex_st 7 (pc' := 47) (ls' := [(4, xr (11 + 3 * n)), (0, xr 0), (1, xi (↑n)), (2, xi 2), (3, xi x)]) (st' := [xi x, xr (11 + 3 * n), xi (↑n), xi 2, xr 104]) rfl ?_
    refine ex_call (ct_A_begin_0_2 (L := L) (n := n) (x := x) (v := I 145 n) (by omega) hq2 ho.2.2.2.1) (by decide) rfl ⟨rfl, rfl, rfl⟩ ⟨Nat.le_of_ble_eq_true rfl, rfl, rfl⟩ (Nat.le_of_ble_eq_true rfl) rfl ?_
    refine ex_reti rfl rfl ?_
    refine x_CQ.of (M := xM_m_act) rfl (Nat.le_of_ble_eq_true rfl) ?_
    refine ex_st 2 (pc' := 2) (ls' := [(0, xr 143), (1, xi (↑n)), (2, xi 2), (3, xi x)]) (st' := [xi 0, xr 143]) rfl ?_
    refine ex_pfi rfl (by decide) (rfl : xSH[143]? = some _) (by decide) rfl (by decide) (fun h => by cases h) ?_
    rw [wM_beg]
    refine ex_st 2 (pc' := 7) (ls' := [(0, xr 143), (1, xi (↑n)), (2, xi 2), (3, xi x)]) (st' := [xi (↑n), xr 143]) rfl ?_
    refine ex_call (ct_m_isOfficial2 (c := I 143 0) (by constructor <;> omega) (by rw [wM_f (by omega), wC_f (by omega), aJ_f (by omega)]) (by omega)) (by decide) rfl ⟨rfl, rfl, rfl⟩ ⟨Nat.le_of_ble_eq_true rfl, rfl, rfl⟩ (Nat.le_of_ble_eq_true rfl) rfl ?_
    refine ex_beq rfl (fun h1 => ?_) (fun h1 => ?_)
    · exfalso; omega
    · refine ex_st 4 (pc' := 17) (ls' := [(0, xr 143), (1, xi (↑n)), (2, xi 2), (3, xi x)]) (st' := [xi 2, xi 0, xi 2, xr 143]) rfl ?_
      refine ex_call (ct_m_in (by first | omega | (constructor <;> omega) | assumption) (by first | omega | (constructor <;> omega) | assumption) (by first | omega | (constructor <;> omega) | assumption)) (by decide) rfl ⟨rfl, rfl, rfl⟩ ⟨Nat.le_of_ble_eq_true rfl, rfl, rfl⟩ (Nat.le_of_ble_eq_true rfl) rfl ?_
      refine ex_bne rfl (fun h2 => ?_) (fun h2 => ?_)
      · refine ex_st 1 (pc' := 26) (ls' := [(0, xr 143), (1, xi (↑n)), (2, xi 2), (3, xi x)]) (st' := [xi 2]) rfl ?_
        refine ex_st 1 (pc' := 38) (ls' := [(0, xr 143), (1, xi (↑n)), (2, xi 2), (3, xi x)]) (st' := []) rfl ?_
        refine ex_st 2 (pc' := 40) (ls' := [(0, xr 143), (1, xi (↑n)), (2, xi 2), (3, xi x)]) (st' := [xi 1, xi 2]) rfl ?_
        refine ex_st 1 (pc' := 52) (ls' := [(0, xr 143), (1, xi (↑n)), (2, xi 2), (3, xi x)]) (st' := []) rfl ?_
        refine ex_st 3 (pc' := 55) (ls' := [(0, xr 143), (1, xi (↑n)), (2, xi 2), (3, xi x)]) (st' := [xi x, xi (↑n), xr 143]) rfl ?_
        refine ex_inl (M' := xM_m_tellsAct) (as := [xr 143, xi (↑n), xi x]) (rest := []) (D' := 28) rfl (Nat.le_of_ble_eq_true rfl) (by decide) rfl ⟨rfl, rfl, rfl⟩ ⟨Nat.le_of_ble_eq_true rfl, rfl, rfl⟩ (Nat.le_of_ble_eq_true rfl) rfl ?_
        refine ex_st 3 (pc' := 5) (ls' := [(0, xr 143), (1, xi (↑n)), (2, xi x)]) (st' := [xi (↑n), xr 144]) rfl ?_
        refine ex_iald (j := n) rfl (by decide) (rfl : xSH[144]? = some _) (by omega) (by omega) (by decide) ?_
        rw [wM_f (by omega), wC_f (by omega), aJ_f (by omega), hq]
        refine ex_st 1 (pc' := 73) (ls' := [(0, xr 143), (1, xi (↑n)), (2, xi x)]) (st' := []) rfl ?_
        refine ex_st 3 (pc' := 76) (ls' := [(0, xr 143), (1, xi (↑n)), (2, xi x)]) (st' := [xi x, xi (↑n), xr 143]) rfl ?_
        refine ex_inl (M' := xM_m_officialTells) (as := [xr 143, xi (↑n), xi x]) (rest := []) (D' := 27) rfl (Nat.le_of_ble_eq_true rfl) (by decide) rfl ⟨rfl, rfl, rfl⟩ ⟨Nat.le_of_ble_eq_true rfl, rfl, rfl⟩ (Nat.le_of_ble_eq_true rfl) rfl ?_
        refine ex_st 2 (pc' := 3) (ls' := [(0, xr 143), (1, xi (↑n)), (2, xi x)]) (st' := [xi 12, xr 143]) rfl ?_
        refine ex_call (ct_m_body (b := 12) (by decide)) (by decide) rfl ⟨rfl, rfl, rfl⟩ ⟨Nat.le_of_ble_eq_true rfl, rfl, rfl⟩ (Nat.le_of_ble_eq_true rfl) rfl ?_
        refine ex_st 3 (pc' := 9) (ls' := [(0, xr 143), (1, xi (↑n)), (2, xi x)]) (st' := [xi x, xi (↑n), xr 143]) rfl ?_
        refine ex_inl (M' := xM_m_looksAct) (as := [xr 143, xi (↑n), xi x]) (rest := []) (D' := 26) rfl (Nat.le_of_ble_eq_true rfl) (by decide) rfl ⟨rfl, rfl, rfl⟩ ⟨Nat.le_of_ble_eq_true rfl, rfl, rfl⟩ (Nat.le_of_ble_eq_true rfl) rfl ?_
        refine ex_st 3 (pc' := 5) (ls' := [(0, xr 143), (1, xi (↑n)), (2, xi x)]) (st' := [xi (↑n), xr 144]) rfl ?_
        refine ex_iald (j := n) rfl (by decide) (rfl : xSH[144]? = some _) (by omega) (by omega) (by decide) ?_
        rw [wM_f (by omega), wC_f (by omega), aJ_f (by omega), hq]
        refine ex_st 1 (pc' := 84) (ls' := [(0, xr 143), (1, xi (↑n)), (2, xi x)]) (st' := []) rfl ?_
        refine ex_st 3 (pc' := 87) (ls' := [(0, xr 143), (1, xi (↑n)), (2, xi x)]) (st' := [xi x, xi (↑n), xr 143]) rfl ?_
        refine ex_inl (M' := xM_m_officialLooks) (as := [xr 143, xi (↑n), xi x]) (rest := []) (D' := 25) rfl (Nat.le_of_ble_eq_true rfl) (by decide) rfl ⟨rfl, rfl, rfl⟩ ⟨Nat.le_of_ble_eq_true rfl, rfl, rfl⟩ (Nat.le_of_ble_eq_true rfl) rfl ?_
        refine ex_st 2 (pc' := 3) (ls' := [(0, xr 143), (1, xi (↑n)), (2, xi x)]) (st' := [xi 11, xr 143]) rfl ?_
        refine ex_call (ct_m_body (b := 11) (by decide)) (by decide) rfl ⟨rfl, rfl, rfl⟩ ⟨Nat.le_of_ble_eq_true rfl, rfl, rfl⟩ (Nat.le_of_ble_eq_true rfl) rfl ?_
        refine ex_st 3 (pc' := 9) (ls' := [(0, xr 143), (1, xi (↑n)), (2, xi x)]) (st' := [xi x, xi (↑n), xr 143]) rfl ?_
        refine ex_inl (M' := xM_m_clucksAct) (as := [xr 143, xi (↑n), xi x]) (rest := []) (D' := 24) rfl (Nat.le_of_ble_eq_true rfl) (by decide) rfl ⟨rfl, rfl, rfl⟩ ⟨Nat.le_of_ble_eq_true rfl, rfl, rfl⟩ (Nat.le_of_ble_eq_true rfl) rfl ?_
        refine ex_st 3 (pc' := 5) (ls' := [(0, xr 143), (1, xi (↑n)), (2, xi x)]) (st' := [xi (↑n), xr 144]) rfl ?_
        refine ex_iald (j := n) rfl (by decide) (rfl : xSH[144]? = some _) (by omega) (by omega) (by decide) ?_
        rw [wM_f (by omega), wC_f (by omega), aJ_f (by omega), hq]
        refine ex_st 1 (pc' := 89) (ls' := [(0, xr 143), (1, xi (↑n)), (2, xi x)]) (st' := []) rfl ?_
        refine ex_st 3 (pc' := 92) (ls' := [(0, xr 143), (1, xi (↑n)), (2, xi x)]) (st' := [xi x, xi (↑n), xr 143]) rfl ?_
        refine ex_inl (M' := xM_m_officialClucks) (as := [xr 143, xi (↑n), xi x]) (rest := []) (D' := 23) rfl (Nat.le_of_ble_eq_true rfl) (by decide) rfl ⟨rfl, rfl, rfl⟩ ⟨Nat.le_of_ble_eq_true rfl, rfl, rfl⟩ (Nat.le_of_ble_eq_true rfl) rfl ?_
        refine ex_st 2 (pc' := 3) (ls' := [(0, xr 143), (1, xi (↑n)), (2, xi x)]) (st' := [xi 10, xr 143]) rfl ?_
        refine ex_call (ct_m_body (b := 10) (by decide)) (by decide) rfl ⟨rfl, rfl, rfl⟩ ⟨Nat.le_of_ble_eq_true rfl, rfl, rfl⟩ (Nat.le_of_ble_eq_true rfl) rfl ?_
        refine ex_st 3 (pc' := 9) (ls' := [(0, xr 143), (1, xi (↑n)), (2, xi x)]) (st' := [xi (x + (↑n))]) rfl ?_
        refine ex_reti rfl rfl ?_
        refine ex_reti rfl rfl ?_
        refine ex_st 3 (pc' := 17) (ls' := [(0, xr 143), (1, xi (↑n)), (2, xi x)]) (st' := [xi (↑n), xr 145, xi (x + (↑n))]) rfl ?_
        refine ex_iald (j := n) rfl (by decide) (rfl : xSH[145]? = some _) (by omega) (by omega) (by decide) ?_
        rw [wM_f (by omega), wC_f (by omega), aJ_f (by omega)]
        refine ex_st 1 (pc' := 19) (ls' := [(0, xr 143), (1, xi (↑n)), (2, xi x)]) (st' := [xi ((x + (↑n)) - (I 145 n))]) rfl ?_
        refine ex_reti rfl rfl ?_
        refine ex_reti rfl rfl ?_
        refine ex_st 2 (pc' := 14) (ls' := [(0, xr 143), (1, xi (↑n)), (2, xi x)]) (st' := [xi (((x + (↑n)) - (I 145 n)) * 2)]) rfl ?_
        refine ex_reti rfl rfl ?_
        refine ex_reti rfl rfl ?_
        refine ex_reti rfl rfl ?_
        exact ⟨x_req (by first | rfl | omega | (congr 1; omega)), _, _, rfl, Rl.act hR (by decide)⟩
      · exfalso; omega
set_option maxRecDepth 8000 in
set_option maxHeartbeats 4000000 in
theorem op_act_1_0 {sc : List Int} {I : Nat → Nat → Int} {L : Nat → Nat → Int64} (hR : Rl I L) {n : Nat} {x : Int} (hv : (n : Int) < I 1 1) (hq : I 144 n = 1) : x_PQ sc xN_G_act [xr 0, xi (↑n), xi 0, xi x] xN_m_act [xr 143, xi (↑n), xi 0, xi x] (xSH, I, L) := by
  obtain ⟨⟨hNs, hNo, hNa, hNb, hNr, hNd, hNg, hNe, hNp, hNk⟩, hI, hT, hX, hC, hH, hQ⟩ := id hR
  have hs := hNs
  unfold RNs at hs
  have ho := hNo n (by omega)
  have hq2 : I (11 + 3 * n) 0 = 1 := by omega
  refine x_CQ.of (M := xM_G_act) rfl (Nat.le_of_ble_eq_true rfl) ?_
  refine ex_st 2 (pc' := 2) (ls' := [(0, xr 0), (1, xi (↑n)), (2, xi 0), (3, xi x)]) (st' := [xi (↑n), xr 0]) rfl ?_
  refine ex_call (ct_G_isOfficial2 (c := I 1 1) (by first | omega | (constructor <;> omega) | assumption | ((repeat rw [x_up_far (by omega)]); first | rfl | omega | (constructor <;> omega))) (by (repeat rw [x_up_far (by omega)]); try rfl) (by first | omega | (constructor <;> omega) | assumption | ((repeat rw [x_up_far (by omega)]); first | rfl | omega | (constructor <;> omega)))) (by decide) rfl ⟨rfl, rfl, rfl⟩ ⟨Nat.le_of_ble_eq_true rfl, rfl, rfl⟩ (Nat.le_of_ble_eq_true rfl) rfl ?_
  refine ex_beq rfl (fun h0 => ?_) (fun h0 => ?_)
  · exfalso; omega
  · refine ex_st 1 (pc' := 9) (ls' := [(0, xr 0), (1, xi (↑n)), (2, xi 0), (3, xi x)]) (st' := [xi 0]) rfl ?_
    refine ex_st 1 (pc' := 12) (ls' := [(0, xr 0), (1, xi (↑n)), (2, xi 0), (3, xi x)]) (st' := []) rfl ?_
    refine ex_st 2 (pc' := 14) (ls' := [(0, xr 0), (1, xi (↑n)), (2, xi 0), (3, xi x)]) (st' := [xi 2, xi 0]) rfl ?_
    refine ex_st 1 (pc' := 27) (ls' := [(0, xr 0), (1, xi (↑n)), (2, xi 0), (3, xi x)]) (st' := []) rfl ?_
    refine ex_st 4 (pc' := 35) (ls' := [(0, xr 0), (1, xi (↑n)), (2, xi 0), (3, xi x)]) (st' := [xi (↑n), xr 2]) rfl ?_
    refine ex_aald (q := 11 + 3 * n) (j := n) rfl (by decide) (rfl : xSH[2]? = some _) (by decide) (by omega) (by omega) (by decide) (x_aa2 n (by omega)) (by omega) ?_
    refine ex_st 7 (pc' := 47) (ls' := [(4, xr (11 + 3 * n)), (0, xr 0), (1, xi (↑n)), (2, xi 0), (3, xi x)]) (st' := [xi x, xr (11 + 3 * n), xi (↑n), xi 0, xr 104]) rfl ?_
    refine ex_call (ct_A_begin_1_0 (L := L) (n := n) (x := x) (v := I 145 n) (by omega) hq2 ho.2.2.2.1) (by decide) rfl ⟨rfl, rfl, rfl⟩ ⟨Nat.le_of_ble_eq_true rfl, rfl, rfl⟩ (Nat.le_of_ble_eq_true rfl) rfl ?_
    refine ex_reti rfl rfl ?_
    refine x_CQ.of (M := xM_m_act) rfl (Nat.le_of_ble_eq_true rfl) ?_
    refine ex_st 2 (pc' := 2) (ls' := [(0, xr 143), (1, xi (↑n)), (2, xi 0), (3, xi x)]) (st' := [xi 0, xr 143]) rfl ?_
    refine ex_pfi rfl (by decide) (rfl : xSH[143]? = some _) (by decide) rfl (by decide) (fun h => by cases h) ?_
    rw [wM_beg]
    refine ex_st 2 (pc' := 7) (ls' := [(0, xr 143), (1, xi (↑n)), (2, xi 0), (3, xi x)]) (st' := [xi (↑n), xr 143]) rfl ?_
    refine ex_call (ct_m_isOfficial2 (c := I 143 0) (by constructor <;> omega) (by rw [wM_f (by omega), wC_f (by omega), aJ_f (by omega)]) (by omega)) (by decide) rfl ⟨rfl, rfl, rfl⟩ ⟨Nat.le_of_ble_eq_true rfl, rfl, rfl⟩ (Nat.le_of_ble_eq_true rfl) rfl ?_
    refine ex_beq rfl (fun h1 => ?_) (fun h1 => ?_)
    · exfalso; omega
    · refine ex_st 4 (pc' := 17) (ls' := [(0, xr 143), (1, xi (↑n)), (2, xi 0), (3, xi x)]) (st' := [xi 2, xi 0, xi 0, xr 143]) rfl ?_
      refine ex_call (ct_m_in (by first | omega | (constructor <;> omega) | assumption) (by first | omega | (constructor <;> omega) | assumption) (by first | omega | (constructor <;> omega) | assumption)) (by decide) rfl ⟨rfl, rfl, rfl⟩ ⟨Nat.le_of_ble_eq_true rfl, rfl, rfl⟩ (Nat.le_of_ble_eq_true rfl) rfl ?_
      refine ex_bne rfl (fun h2 => ?_) (fun h2 => ?_)
      · refine ex_st 1 (pc' := 26) (ls' := [(0, xr 143), (1, xi (↑n)), (2, xi 0), (3, xi x)]) (st' := [xi 0]) rfl ?_
        refine ex_st 1 (pc' := 29) (ls' := [(0, xr 143), (1, xi (↑n)), (2, xi 0), (3, xi x)]) (st' := []) rfl ?_
        refine ex_st 3 (pc' := 32) (ls' := [(0, xr 143), (1, xi (↑n)), (2, xi 0), (3, xi x)]) (st' := [xi x, xi (↑n), xr 143]) rfl ?_
        refine ex_inl (M' := xM_m_clucksAct) (as := [xr 143, xi (↑n), xi x]) (rest := []) (D' := 28) rfl (Nat.le_of_ble_eq_true rfl) (by decide) rfl ⟨rfl, rfl, rfl⟩ ⟨Nat.le_of_ble_eq_true rfl, rfl, rfl⟩ (Nat.le_of_ble_eq_true rfl) rfl ?_
        refine ex_st 3 (pc' := 5) (ls' := [(0, xr 143), (1, xi (↑n)), (2, xi x)]) (st' := [xi (↑n), xr 144]) rfl ?_
        refine ex_iald (j := n) rfl (by decide) (rfl : xSH[144]? = some _) (by omega) (by omega) (by decide) ?_
        rw [wM_f (by omega), wC_f (by omega), aJ_f (by omega), hq]
        refine ex_st 1 (pc' := 89) (ls' := [(0, xr 143), (1, xi (↑n)), (2, xi x)]) (st' := []) rfl ?_
        refine ex_st 3 (pc' := 92) (ls' := [(0, xr 143), (1, xi (↑n)), (2, xi x)]) (st' := [xi x, xi (↑n), xr 143]) rfl ?_
        refine ex_inl (M' := xM_m_officialClucks) (as := [xr 143, xi (↑n), xi x]) (rest := []) (D' := 27) rfl (Nat.le_of_ble_eq_true rfl) (by decide) rfl ⟨rfl, rfl, rfl⟩ ⟨Nat.le_of_ble_eq_true rfl, rfl, rfl⟩ (Nat.le_of_ble_eq_true rfl) rfl ?_
        refine ex_st 2 (pc' := 3) (ls' := [(0, xr 143), (1, xi (↑n)), (2, xi x)]) (st' := [xi 10, xr 143]) rfl ?_
        refine ex_call (ct_m_body (b := 10) (by decide)) (by decide) rfl ⟨rfl, rfl, rfl⟩ ⟨Nat.le_of_ble_eq_true rfl, rfl, rfl⟩ (Nat.le_of_ble_eq_true rfl) rfl ?_
        refine ex_st 3 (pc' := 9) (ls' := [(0, xr 143), (1, xi (↑n)), (2, xi x)]) (st' := [xi (x + (↑n))]) rfl ?_
        refine ex_reti rfl rfl ?_
        refine ex_reti rfl rfl ?_
        refine ex_st 1 (pc' := 58) (ls' := [(0, xr 143), (1, xi (↑n)), (2, xi 0), (3, xi x)]) (st' := [xi (x + (↑n))]) rfl ?_
        refine ex_reti rfl rfl ?_
        exact ⟨x_req (by first | rfl | omega | (congr 1; omega)), _, _, rfl, Rl.act hR (by decide)⟩
      · exfalso; omega
set_option maxRecDepth 8000 in
set_option maxHeartbeats 4000000 in
theorem op_act_1_1 {sc : List Int} {I : Nat → Nat → Int} {L : Nat → Nat → Int64} (hR : Rl I L) {n : Nat} {x : Int} (hv : (n : Int) < I 1 1) (hq : I 144 n = 1) : x_PQ sc xN_G_act [xr 0, xi (↑n), xi 1, xi x] xN_m_act [xr 143, xi (↑n), xi 1, xi x] (xSH, I, L) := by
  obtain ⟨⟨hNs, hNo, hNa, hNb, hNr, hNd, hNg, hNe, hNp, hNk⟩, hI, hT, hX, hC, hH, hQ⟩ := id hR
  have hs := hNs
  unfold RNs at hs
  have ho := hNo n (by omega)
  have hq2 : I (11 + 3 * n) 0 = 1 := by omega
  refine x_CQ.of (M := xM_G_act) rfl (Nat.le_of_ble_eq_true rfl) ?_
  refine ex_st 2 (pc' := 2) (ls' := [(0, xr 0), (1, xi (↑n)), (2, xi 1), (3, xi x)]) (st' := [xi (↑n), xr 0]) rfl ?_
  refine ex_call (ct_G_isOfficial2 (c := I 1 1) (by first | omega | (constructor <;> omega) | assumption | ((repeat rw [x_up_far (by omega)]); first | rfl | omega | (constructor <;> omega))) (by (repeat rw [x_up_far (by omega)]); try rfl) (by first | omega | (constructor <;> omega) | assumption | ((repeat rw [x_up_far (by omega)]); first | rfl | omega | (constructor <;> omega)))) (by decide) rfl ⟨rfl, rfl, rfl⟩ ⟨Nat.le_of_ble_eq_true rfl, rfl, rfl⟩ (Nat.le_of_ble_eq_true rfl) rfl ?_
  refine ex_beq rfl (fun h0 => ?_) (fun h0 => ?_)
  · exfalso; omega
  · refine ex_st 1 (pc' := 9) (ls' := [(0, xr 0), (1, xi (↑n)), (2, xi 1), (3, xi x)]) (st' := [xi 1]) rfl ?_
    refine ex_st 1 (pc' := 12) (ls' := [(0, xr 0), (1, xi (↑n)), (2, xi 1), (3, xi x)]) (st' := []) rfl ?_
    refine ex_st 2 (pc' := 14) (ls' := [(0, xr 0), (1, xi (↑n)), (2, xi 1), (3, xi x)]) (st' := [xi 2, xi 1]) rfl ?_
    refine ex_st 1 (pc' := 27) (ls' := [(0, xr 0), (1, xi (↑n)), (2, xi 1), (3, xi x)]) (st' := []) rfl ?_
    refine ex_st 4 (pc' := 35) (ls' := [(0, xr 0), (1, xi (↑n)), (2, xi 1), (3, xi x)]) (st' := [xi (↑n), xr 2]) rfl ?_
    refine ex_aald (q := 11 + 3 * n) (j := n) rfl (by decide) (rfl : xSH[2]? = some _) (by decide) (by omega) (by omega) (by decide) (x_aa2 n (by omega)) (by omega) ?_
    refine ex_st 7 (pc' := 47) (ls' := [(4, xr (11 + 3 * n)), (0, xr 0), (1, xi (↑n)), (2, xi 1), (3, xi x)]) (st' := [xi x, xr (11 + 3 * n), xi (↑n), xi 1, xr 104]) rfl ?_
    refine ex_call (ct_A_begin_1_1 (L := L) (n := n) (x := x) (v := I 145 n) (by omega) hq2 ho.2.2.2.1) (by decide) rfl ⟨rfl, rfl, rfl⟩ ⟨Nat.le_of_ble_eq_true rfl, rfl, rfl⟩ (Nat.le_of_ble_eq_true rfl) rfl ?_
    refine ex_reti rfl rfl ?_
    refine x_CQ.of (M := xM_m_act) rfl (Nat.le_of_ble_eq_true rfl) ?_
    refine ex_st 2 (pc' := 2) (ls' := [(0, xr 143), (1, xi (↑n)), (2, xi 1), (3, xi x)]) (st' := [xi 0, xr 143]) rfl ?_
    refine ex_pfi rfl (by decide) (rfl : xSH[143]? = some _) (by decide) rfl (by decide) (fun h => by cases h) ?_
    rw [wM_beg]
    refine ex_st 2 (pc' := 7) (ls' := [(0, xr 143), (1, xi (↑n)), (2, xi 1), (3, xi x)]) (st' := [xi (↑n), xr 143]) rfl ?_
    refine ex_call (ct_m_isOfficial2 (c := I 143 0) (by constructor <;> omega) (by rw [wM_f (by omega), wC_f (by omega), aJ_f (by omega)]) (by omega)) (by decide) rfl ⟨rfl, rfl, rfl⟩ ⟨Nat.le_of_ble_eq_true rfl, rfl, rfl⟩ (Nat.le_of_ble_eq_true rfl) rfl ?_
    refine ex_beq rfl (fun h1 => ?_) (fun h1 => ?_)
    · exfalso; omega
    · refine ex_st 4 (pc' := 17) (ls' := [(0, xr 143), (1, xi (↑n)), (2, xi 1), (3, xi x)]) (st' := [xi 2, xi 0, xi 1, xr 143]) rfl ?_
      refine ex_call (ct_m_in (by first | omega | (constructor <;> omega) | assumption) (by first | omega | (constructor <;> omega) | assumption) (by first | omega | (constructor <;> omega) | assumption)) (by decide) rfl ⟨rfl, rfl, rfl⟩ ⟨Nat.le_of_ble_eq_true rfl, rfl, rfl⟩ (Nat.le_of_ble_eq_true rfl) rfl ?_
      refine ex_bne rfl (fun h2 => ?_) (fun h2 => ?_)
      · refine ex_st 1 (pc' := 26) (ls' := [(0, xr 143), (1, xi (↑n)), (2, xi 1), (3, xi x)]) (st' := [xi 1]) rfl ?_
        refine ex_st 1 (pc' := 38) (ls' := [(0, xr 143), (1, xi (↑n)), (2, xi 1), (3, xi x)]) (st' := []) rfl ?_
        refine ex_st 2 (pc' := 40) (ls' := [(0, xr 143), (1, xi (↑n)), (2, xi 1), (3, xi x)]) (st' := [xi 1, xi 1]) rfl ?_
        refine ex_st 1 (pc' := 43) (ls' := [(0, xr 143), (1, xi (↑n)), (2, xi 1), (3, xi x)]) (st' := []) rfl ?_
        refine ex_st 3 (pc' := 46) (ls' := [(0, xr 143), (1, xi (↑n)), (2, xi 1), (3, xi x)]) (st' := [xi x, xi (↑n), xr 143]) rfl ?_
        refine ex_inl (M' := xM_m_looksAct) (as := [xr 143, xi (↑n), xi x]) (rest := []) (D' := 28) rfl (Nat.le_of_ble_eq_true rfl) (by decide) rfl ⟨rfl, rfl, rfl⟩ ⟨Nat.le_of_ble_eq_true rfl, rfl, rfl⟩ (Nat.le_of_ble_eq_true rfl) rfl ?_
        refine ex_st 3 (pc' := 5) (ls' := [(0, xr 143), (1, xi (↑n)), (2, xi x)]) (st' := [xi (↑n), xr 144]) rfl ?_
        refine ex_iald (j := n) rfl (by decide) (rfl : xSH[144]? = some _) (by omega) (by omega) (by decide) ?_
        rw [wM_f (by omega), wC_f (by omega), aJ_f (by omega), hq]
        refine ex_st 1 (pc' := 40) (ls' := [(0, xr 143), (1, xi (↑n)), (2, xi x)]) (st' := []) rfl ?_
        refine ex_st 3 (pc' := 43) (ls' := [(0, xr 143), (1, xi (↑n)), (2, xi x)]) (st' := [xi x, xi (↑n), xr 143]) rfl ?_
        refine ex_inl (M' := xM_m_clerkLooks) (as := [xr 143, xi (↑n), xi x]) (rest := []) (D' := 27) rfl (Nat.le_of_ble_eq_true rfl) (by decide) rfl ⟨rfl, rfl, rfl⟩ ⟨Nat.le_of_ble_eq_true rfl, rfl, rfl⟩ (Nat.le_of_ble_eq_true rfl) rfl ?_
        refine ex_st 2 (pc' := 3) (ls' := [(0, xr 143), (1, xi (↑n)), (2, xi x)]) (st' := [xi 20, xr 143]) rfl ?_
        refine ex_call (ct_m_body (b := 20) (by decide)) (by decide) rfl ⟨rfl, rfl, rfl⟩ ⟨Nat.le_of_ble_eq_true rfl, rfl, rfl⟩ (Nat.le_of_ble_eq_true rfl) rfl ?_
        refine ex_st 3 (pc' := 9) (ls' := [(0, xr 143), (1, xi (↑n)), (2, xi x)]) (st' := [xi x, xi (↑n), xr 143]) rfl ?_
        refine ex_inl (M' := xM_m_officialLooks) (as := [xr 143, xi (↑n), xi x]) (rest := []) (D' := 26) rfl (Nat.le_of_ble_eq_true rfl) (by decide) rfl ⟨rfl, rfl, rfl⟩ ⟨Nat.le_of_ble_eq_true rfl, rfl, rfl⟩ (Nat.le_of_ble_eq_true rfl) rfl ?_
        refine ex_st 2 (pc' := 3) (ls' := [(0, xr 143), (1, xi (↑n)), (2, xi x)]) (st' := [xi 11, xr 143]) rfl ?_
        refine ex_call (ct_m_body (b := 11) (by decide)) (by decide) rfl ⟨rfl, rfl, rfl⟩ ⟨Nat.le_of_ble_eq_true rfl, rfl, rfl⟩ (Nat.le_of_ble_eq_true rfl) rfl ?_
        refine ex_st 3 (pc' := 9) (ls' := [(0, xr 143), (1, xi (↑n)), (2, xi x)]) (st' := [xi x, xi (↑n), xr 143]) rfl ?_
        refine ex_inl (M' := xM_m_clucksAct) (as := [xr 143, xi (↑n), xi x]) (rest := []) (D' := 25) rfl (Nat.le_of_ble_eq_true rfl) (by decide) rfl ⟨rfl, rfl, rfl⟩ ⟨Nat.le_of_ble_eq_true rfl, rfl, rfl⟩ (Nat.le_of_ble_eq_true rfl) rfl ?_
        refine ex_st 3 (pc' := 5) (ls' := [(0, xr 143), (1, xi (↑n)), (2, xi x)]) (st' := [xi (↑n), xr 144]) rfl ?_
        refine ex_iald (j := n) rfl (by decide) (rfl : xSH[144]? = some _) (by omega) (by omega) (by decide) ?_
        rw [wM_f (by omega), wC_f (by omega), aJ_f (by omega), hq]
        refine ex_st 1 (pc' := 89) (ls' := [(0, xr 143), (1, xi (↑n)), (2, xi x)]) (st' := []) rfl ?_
        refine ex_st 3 (pc' := 92) (ls' := [(0, xr 143), (1, xi (↑n)), (2, xi x)]) (st' := [xi x, xi (↑n), xr 143]) rfl ?_
        refine ex_inl (M' := xM_m_officialClucks) (as := [xr 143, xi (↑n), xi x]) (rest := []) (D' := 24) rfl (Nat.le_of_ble_eq_true rfl) (by decide) rfl ⟨rfl, rfl, rfl⟩ ⟨Nat.le_of_ble_eq_true rfl, rfl, rfl⟩ (Nat.le_of_ble_eq_true rfl) rfl ?_
        refine ex_st 2 (pc' := 3) (ls' := [(0, xr 143), (1, xi (↑n)), (2, xi x)]) (st' := [xi 10, xr 143]) rfl ?_
        refine ex_call (ct_m_body (b := 10) (by decide)) (by decide) rfl ⟨rfl, rfl, rfl⟩ ⟨Nat.le_of_ble_eq_true rfl, rfl, rfl⟩ (Nat.le_of_ble_eq_true rfl) rfl ?_
        refine ex_st 3 (pc' := 9) (ls' := [(0, xr 143), (1, xi (↑n)), (2, xi x)]) (st' := [xi (x + (↑n))]) rfl ?_
        refine ex_reti rfl rfl ?_
        refine ex_reti rfl rfl ?_
        refine ex_st 3 (pc' := 17) (ls' := [(0, xr 143), (1, xi (↑n)), (2, xi x)]) (st' := [xi (↑n), xr 145, xi (x + (↑n))]) rfl ?_
        refine ex_iald (j := n) rfl (by decide) (rfl : xSH[145]? = some _) (by omega) (by omega) (by decide) ?_
        rw [wM_f (by omega), wC_f (by omega), aJ_f (by omega)]
        refine ex_st 1 (pc' := 19) (ls' := [(0, xr 143), (1, xi (↑n)), (2, xi x)]) (st' := [xi ((x + (↑n)) - (I 145 n))]) rfl ?_
        refine ex_reti rfl rfl ?_
        refine ex_st 1 (pc' := 14) (ls' := [(0, xr 143), (1, xi (↑n)), (2, xi x)]) (st' := [xi 6, xi ((x + (↑n)) - (I 145 n))]) rfl ?_
        refine ex_ixor rfl ?_
        generalize hzx1 : z_xor ((x + (↑n)) - (I 145 n)) 6 = zx1
        refine ex_reti rfl rfl ?_
        refine ex_reti rfl rfl ?_
        refine ex_st 1 (pc' := 58) (ls' := [(0, xr 143), (1, xi (↑n)), (2, xi 1), (3, xi x)]) (st' := [xi zx1]) rfl ?_
        refine ex_reti rfl rfl ?_
        subst hzx1
        exact ⟨x_req (by first | rfl | omega | (congr 1; omega)), _, _, rfl, Rl.act hR (by decide)⟩
      · exfalso; omega
set_option maxRecDepth 8000 in
set_option maxHeartbeats 4000000 in
theorem op_act_1_2 {sc : List Int} {I : Nat → Nat → Int} {L : Nat → Nat → Int64} (hR : Rl I L) {n : Nat} {x : Int} (hv : (n : Int) < I 1 1) (hq : I 144 n = 1) : x_PQ sc xN_G_act [xr 0, xi (↑n), xi 2, xi x] xN_m_act [xr 143, xi (↑n), xi 2, xi x] (xSH, I, L) := by
  obtain ⟨⟨hNs, hNo, hNa, hNb, hNr, hNd, hNg, hNe, hNp, hNk⟩, hI, hT, hX, hC, hH, hQ⟩ := id hR
  have hs := hNs
  unfold RNs at hs
  have ho := hNo n (by omega)
  have hq2 : I (11 + 3 * n) 0 = 1 := by omega
  refine x_CQ.of (M := xM_G_act) rfl (Nat.le_of_ble_eq_true rfl) ?_
  refine ex_st 2 (pc' := 2) (ls' := [(0, xr 0), (1, xi (↑n)), (2, xi 2), (3, xi x)]) (st' := [xi (↑n), xr 0]) rfl ?_
  refine ex_call (ct_G_isOfficial2 (c := I 1 1) (by first | omega | (constructor <;> omega) | assumption | ((repeat rw [x_up_far (by omega)]); first | rfl | omega | (constructor <;> omega))) (by (repeat rw [x_up_far (by omega)]); try rfl) (by first | omega | (constructor <;> omega) | assumption | ((repeat rw [x_up_far (by omega)]); first | rfl | omega | (constructor <;> omega)))) (by decide) rfl ⟨rfl, rfl, rfl⟩ ⟨Nat.le_of_ble_eq_true rfl, rfl, rfl⟩ (Nat.le_of_ble_eq_true rfl) rfl ?_
  refine ex_beq rfl (fun h0 => ?_) (fun h0 => ?_)
  · exfalso; omega
  · refine ex_st 1 (pc' := 9) (ls' := [(0, xr 0), (1, xi (↑n)), (2, xi 2), (3, xi x)]) (st' := [xi 2]) rfl ?_
    refine ex_st 1 (pc' := 12) (ls' := [(0, xr 0), (1, xi (↑n)), (2, xi 2), (3, xi x)]) (st' := []) rfl ?_
    refine ex_st 2 (pc' := 14) (ls' := [(0, xr 0), (1, xi (↑n)), (2, xi 2), (3, xi x)]) (st' := [xi 2, xi 2]) rfl ?_
    refine ex_st 1 (pc' := 27) (ls' := [(0, xr 0), (1, xi (↑n)), (2, xi 2), (3, xi x)]) (st' := []) rfl ?_
    refine ex_st 4 (pc' := 35) (ls' := [(0, xr 0), (1, xi (↑n)), (2, xi 2), (3, xi x)]) (st' := [xi (↑n), xr 2]) rfl ?_
    refine ex_aald (q := 11 + 3 * n) (j := n) rfl (by decide) (rfl : xSH[2]? = some _) (by decide) (by omega) (by omega) (by decide) (x_aa2 n (by omega)) (by omega) ?_
    refine ex_st 7 (pc' := 47) (ls' := [(4, xr (11 + 3 * n)), (0, xr 0), (1, xi (↑n)), (2, xi 2), (3, xi x)]) (st' := [xi x, xr (11 + 3 * n), xi (↑n), xi 2, xr 104]) rfl ?_
    refine ex_call (ct_A_begin_1_2 (L := L) (n := n) (x := x) (v := I 145 n) (by omega) hq2 ho.2.2.2.1) (by decide) rfl ⟨rfl, rfl, rfl⟩ ⟨Nat.le_of_ble_eq_true rfl, rfl, rfl⟩ (Nat.le_of_ble_eq_true rfl) rfl ?_
    refine ex_reti rfl rfl ?_
    refine x_CQ.of (M := xM_m_act) rfl (Nat.le_of_ble_eq_true rfl) ?_
    refine ex_st 2 (pc' := 2) (ls' := [(0, xr 143), (1, xi (↑n)), (2, xi 2), (3, xi x)]) (st' := [xi 0, xr 143]) rfl ?_
    refine ex_pfi rfl (by decide) (rfl : xSH[143]? = some _) (by decide) rfl (by decide) (fun h => by cases h) ?_
    rw [wM_beg]
    refine ex_st 2 (pc' := 7) (ls' := [(0, xr 143), (1, xi (↑n)), (2, xi 2), (3, xi x)]) (st' := [xi (↑n), xr 143]) rfl ?_
    refine ex_call (ct_m_isOfficial2 (c := I 143 0) (by constructor <;> omega) (by rw [wM_f (by omega), wC_f (by omega), aJ_f (by omega)]) (by omega)) (by decide) rfl ⟨rfl, rfl, rfl⟩ ⟨Nat.le_of_ble_eq_true rfl, rfl, rfl⟩ (Nat.le_of_ble_eq_true rfl) rfl ?_
    refine ex_beq rfl (fun h1 => ?_) (fun h1 => ?_)
    · exfalso; omega
    · refine ex_st 4 (pc' := 17) (ls' := [(0, xr 143), (1, xi (↑n)), (2, xi 2), (3, xi x)]) (st' := [xi 2, xi 0, xi 2, xr 143]) rfl ?_
      refine ex_call (ct_m_in (by first | omega | (constructor <;> omega) | assumption) (by first | omega | (constructor <;> omega) | assumption) (by first | omega | (constructor <;> omega) | assumption)) (by decide) rfl ⟨rfl, rfl, rfl⟩ ⟨Nat.le_of_ble_eq_true rfl, rfl, rfl⟩ (Nat.le_of_ble_eq_true rfl) rfl ?_
      refine ex_bne rfl (fun h2 => ?_) (fun h2 => ?_)
      · refine ex_st 1 (pc' := 26) (ls' := [(0, xr 143), (1, xi (↑n)), (2, xi 2), (3, xi x)]) (st' := [xi 2]) rfl ?_
        refine ex_st 1 (pc' := 38) (ls' := [(0, xr 143), (1, xi (↑n)), (2, xi 2), (3, xi x)]) (st' := []) rfl ?_
        refine ex_st 2 (pc' := 40) (ls' := [(0, xr 143), (1, xi (↑n)), (2, xi 2), (3, xi x)]) (st' := [xi 1, xi 2]) rfl ?_
        refine ex_st 1 (pc' := 52) (ls' := [(0, xr 143), (1, xi (↑n)), (2, xi 2), (3, xi x)]) (st' := []) rfl ?_
        refine ex_st 3 (pc' := 55) (ls' := [(0, xr 143), (1, xi (↑n)), (2, xi 2), (3, xi x)]) (st' := [xi x, xi (↑n), xr 143]) rfl ?_
        refine ex_inl (M' := xM_m_tellsAct) (as := [xr 143, xi (↑n), xi x]) (rest := []) (D' := 28) rfl (Nat.le_of_ble_eq_true rfl) (by decide) rfl ⟨rfl, rfl, rfl⟩ ⟨Nat.le_of_ble_eq_true rfl, rfl, rfl⟩ (Nat.le_of_ble_eq_true rfl) rfl ?_
        refine ex_st 3 (pc' := 5) (ls' := [(0, xr 143), (1, xi (↑n)), (2, xi x)]) (st' := [xi (↑n), xr 144]) rfl ?_
        refine ex_iald (j := n) rfl (by decide) (rfl : xSH[144]? = some _) (by omega) (by omega) (by decide) ?_
        rw [wM_f (by omega), wC_f (by omega), aJ_f (by omega), hq]
        refine ex_st 1 (pc' := 73) (ls' := [(0, xr 143), (1, xi (↑n)), (2, xi x)]) (st' := []) rfl ?_
        refine ex_st 3 (pc' := 76) (ls' := [(0, xr 143), (1, xi (↑n)), (2, xi x)]) (st' := [xi x, xi (↑n), xr 143]) rfl ?_
        refine ex_inl (M' := xM_m_officialTells) (as := [xr 143, xi (↑n), xi x]) (rest := []) (D' := 27) rfl (Nat.le_of_ble_eq_true rfl) (by decide) rfl ⟨rfl, rfl, rfl⟩ ⟨Nat.le_of_ble_eq_true rfl, rfl, rfl⟩ (Nat.le_of_ble_eq_true rfl) rfl ?_
        refine ex_st 2 (pc' := 3) (ls' := [(0, xr 143), (1, xi (↑n)), (2, xi x)]) (st' := [xi 12, xr 143]) rfl ?_
        refine ex_call (ct_m_body (b := 12) (by decide)) (by decide) rfl ⟨rfl, rfl, rfl⟩ ⟨Nat.le_of_ble_eq_true rfl, rfl, rfl⟩ (Nat.le_of_ble_eq_true rfl) rfl ?_
        refine ex_st 3 (pc' := 9) (ls' := [(0, xr 143), (1, xi (↑n)), (2, xi x)]) (st' := [xi x, xi (↑n), xr 143]) rfl ?_
        refine ex_inl (M' := xM_m_looksAct) (as := [xr 143, xi (↑n), xi x]) (rest := []) (D' := 26) rfl (Nat.le_of_ble_eq_true rfl) (by decide) rfl ⟨rfl, rfl, rfl⟩ ⟨Nat.le_of_ble_eq_true rfl, rfl, rfl⟩ (Nat.le_of_ble_eq_true rfl) rfl ?_
        refine ex_st 3 (pc' := 5) (ls' := [(0, xr 143), (1, xi (↑n)), (2, xi x)]) (st' := [xi (↑n), xr 144]) rfl ?_
        refine ex_iald (j := n) rfl (by decide) (rfl : xSH[144]? = some _) (by omega) (by omega) (by decide) ?_
        rw [wM_f (by omega), wC_f (by omega), aJ_f (by omega), hq]
        refine ex_st 1 (pc' := 40) (ls' := [(0, xr 143), (1, xi (↑n)), (2, xi x)]) (st' := []) rfl ?_
        refine ex_st 3 (pc' := 43) (ls' := [(0, xr 143), (1, xi (↑n)), (2, xi x)]) (st' := [xi x, xi (↑n), xr 143]) rfl ?_
        refine ex_inl (M' := xM_m_clerkLooks) (as := [xr 143, xi (↑n), xi x]) (rest := []) (D' := 25) rfl (Nat.le_of_ble_eq_true rfl) (by decide) rfl ⟨rfl, rfl, rfl⟩ ⟨Nat.le_of_ble_eq_true rfl, rfl, rfl⟩ (Nat.le_of_ble_eq_true rfl) rfl ?_
        refine ex_st 2 (pc' := 3) (ls' := [(0, xr 143), (1, xi (↑n)), (2, xi x)]) (st' := [xi 20, xr 143]) rfl ?_
        refine ex_call (ct_m_body (b := 20) (by decide)) (by decide) rfl ⟨rfl, rfl, rfl⟩ ⟨Nat.le_of_ble_eq_true rfl, rfl, rfl⟩ (Nat.le_of_ble_eq_true rfl) rfl ?_
        refine ex_st 3 (pc' := 9) (ls' := [(0, xr 143), (1, xi (↑n)), (2, xi x)]) (st' := [xi x, xi (↑n), xr 143]) rfl ?_
        refine ex_inl (M' := xM_m_officialLooks) (as := [xr 143, xi (↑n), xi x]) (rest := []) (D' := 24) rfl (Nat.le_of_ble_eq_true rfl) (by decide) rfl ⟨rfl, rfl, rfl⟩ ⟨Nat.le_of_ble_eq_true rfl, rfl, rfl⟩ (Nat.le_of_ble_eq_true rfl) rfl ?_
        refine ex_st 2 (pc' := 3) (ls' := [(0, xr 143), (1, xi (↑n)), (2, xi x)]) (st' := [xi 11, xr 143]) rfl ?_
        refine ex_call (ct_m_body (b := 11) (by decide)) (by decide) rfl ⟨rfl, rfl, rfl⟩ ⟨Nat.le_of_ble_eq_true rfl, rfl, rfl⟩ (Nat.le_of_ble_eq_true rfl) rfl ?_
        refine ex_st 3 (pc' := 9) (ls' := [(0, xr 143), (1, xi (↑n)), (2, xi x)]) (st' := [xi x, xi (↑n), xr 143]) rfl ?_
        refine ex_inl (M' := xM_m_clucksAct) (as := [xr 143, xi (↑n), xi x]) (rest := []) (D' := 23) rfl (Nat.le_of_ble_eq_true rfl) (by decide) rfl ⟨rfl, rfl, rfl⟩ ⟨Nat.le_of_ble_eq_true rfl, rfl, rfl⟩ (Nat.le_of_ble_eq_true rfl) rfl ?_
        refine ex_st 3 (pc' := 5) (ls' := [(0, xr 143), (1, xi (↑n)), (2, xi x)]) (st' := [xi (↑n), xr 144]) rfl ?_
        refine ex_iald (j := n) rfl (by decide) (rfl : xSH[144]? = some _) (by omega) (by omega) (by decide) ?_
        rw [wM_f (by omega), wC_f (by omega), aJ_f (by omega), hq]
        refine ex_st 1 (pc' := 89) (ls' := [(0, xr 143), (1, xi (↑n)), (2, xi x)]) (st' := []) rfl ?_
        refine ex_st 3 (pc' := 92) (ls' := [(0, xr 143), (1, xi (↑n)), (2, xi x)]) (st' := [xi x, xi (↑n), xr 143]) rfl ?_
        refine ex_inl (M' := xM_m_officialClucks) (as := [xr 143, xi (↑n), xi x]) (rest := []) (D' := 22) rfl (Nat.le_of_ble_eq_true rfl) (by decide) rfl ⟨rfl, rfl, rfl⟩ ⟨Nat.le_of_ble_eq_true rfl, rfl, rfl⟩ (Nat.le_of_ble_eq_true rfl) rfl ?_
        refine ex_st 2 (pc' := 3) (ls' := [(0, xr 143), (1, xi (↑n)), (2, xi x)]) (st' := [xi 10, xr 143]) rfl ?_
        refine ex_call (ct_m_body (b := 10) (by decide)) (by decide) rfl ⟨rfl, rfl, rfl⟩ ⟨Nat.le_of_ble_eq_true rfl, rfl, rfl⟩ (Nat.le_of_ble_eq_true rfl) rfl ?_
        refine ex_st 3 (pc' := 9) (ls' := [(0, xr 143), (1, xi (↑n)), (2, xi x)]) (st' := [xi (x + (↑n))]) rfl ?_
        refine ex_reti rfl rfl ?_
        refine ex_reti rfl rfl ?_
        refine ex_st 3 (pc' := 17) (ls' := [(0, xr 143), (1, xi (↑n)), (2, xi x)]) (st' := [xi (↑n), xr 145, xi (x + (↑n))]) rfl ?_
        refine ex_iald (j := n) rfl (by decide) (rfl : xSH[145]? = some _) (by omega) (by omega) (by decide) ?_
        rw [wM_f (by omega), wC_f (by omega), aJ_f (by omega)]
        refine ex_st 1 (pc' := 19) (ls' := [(0, xr 143), (1, xi (↑n)), (2, xi x)]) (st' := [xi ((x + (↑n)) - (I 145 n))]) rfl ?_
        refine ex_reti rfl rfl ?_
        refine ex_st 1 (pc' := 14) (ls' := [(0, xr 143), (1, xi (↑n)), (2, xi x)]) (st' := [xi 6, xi ((x + (↑n)) - (I 145 n))]) rfl ?_
        refine ex_ixor rfl ?_
        generalize hzx1 : z_xor ((x + (↑n)) - (I 145 n)) 6 = zx1
        refine ex_reti rfl rfl ?_
        refine ex_reti rfl rfl ?_
        refine ex_st 2 (pc' := 14) (ls' := [(0, xr 143), (1, xi (↑n)), (2, xi x)]) (st' := [xi (zx1 * 2)]) rfl ?_
        refine ex_reti rfl rfl ?_
        refine ex_reti rfl rfl ?_
        refine ex_reti rfl rfl ?_
        subst hzx1
        exact ⟨x_req (by first | rfl | omega | (congr 1; omega)), _, _, rfl, Rl.act hR (by decide)⟩
      · exfalso; omega
set_option maxRecDepth 8000 in
set_option maxHeartbeats 4000000 in
theorem op_act_2_0 {sc : List Int} {I : Nat → Nat → Int} {L : Nat → Nat → Int64} (hR : Rl I L) {n : Nat} {x : Int} (hv : (n : Int) < I 1 1) (hq : I 144 n = 2) : x_PQ sc xN_G_act [xr 0, xi (↑n), xi 0, xi x] xN_m_act [xr 143, xi (↑n), xi 0, xi x] (xSH, I, L) := by
  obtain ⟨⟨hNs, hNo, hNa, hNb, hNr, hNd, hNg, hNe, hNp, hNk⟩, hI, hT, hX, hC, hH, hQ⟩ := id hR
  have hs := hNs
  unfold RNs at hs
  have ho := hNo n (by omega)
  have hq2 : I (11 + 3 * n) 0 = 2 := by omega
  refine x_CQ.of (M := xM_G_act) rfl (Nat.le_of_ble_eq_true rfl) ?_
  refine ex_st 2 (pc' := 2) (ls' := [(0, xr 0), (1, xi (↑n)), (2, xi 0), (3, xi x)]) (st' := [xi (↑n), xr 0]) rfl ?_
  refine ex_call (ct_G_isOfficial2 (c := I 1 1) (by first | omega | (constructor <;> omega) | assumption | ((repeat rw [x_up_far (by omega)]); first | rfl | omega | (constructor <;> omega))) (by (repeat rw [x_up_far (by omega)]); try rfl) (by first | omega | (constructor <;> omega) | assumption | ((repeat rw [x_up_far (by omega)]); first | rfl | omega | (constructor <;> omega)))) (by decide) rfl ⟨rfl, rfl, rfl⟩ ⟨Nat.le_of_ble_eq_true rfl, rfl, rfl⟩ (Nat.le_of_ble_eq_true rfl) rfl ?_
  refine ex_beq rfl (fun h0 => ?_) (fun h0 => ?_)
  · exfalso; omega
  · refine ex_st 1 (pc' := 9) (ls' := [(0, xr 0), (1, xi (↑n)), (2, xi 0), (3, xi x)]) (st' := [xi 0]) rfl ?_
    refine ex_st 1 (pc' := 12) (ls' := [(0, xr 0), (1, xi (↑n)), (2, xi 0), (3, xi x)]) (st' := []) rfl ?_
    refine ex_st 2 (pc' := 14) (ls' := [(0, xr 0), (1, xi (↑n)), (2, xi 0), (3, xi x)]) (st' := [xi 2, xi 0]) rfl ?_
    refine ex_st 1 (pc' := 27) (ls' := [(0, xr 0), (1, xi (↑n)), (2, xi 0), (3, xi x)]) (st' := []) rfl ?_
    refine ex_st 4 (pc' := 35) (ls' := [(0, xr 0), (1, xi (↑n)), (2, xi 0), (3, xi x)]) (st' := [xi (↑n), xr 2]) rfl ?_
    refine ex_aald (q := 11 + 3 * n) (j := n) rfl (by decide) (rfl : xSH[2]? = some _) (by decide) (by omega) (by omega) (by decide) (x_aa2 n (by omega)) (by omega) ?_
    refine ex_st 7 (pc' := 47) (ls' := [(4, xr (11 + 3 * n)), (0, xr 0), (1, xi (↑n)), (2, xi 0), (3, xi x)]) (st' := [xi x, xr (11 + 3 * n), xi (↑n), xi 0, xr 104]) rfl ?_
    refine ex_call (ct_A_begin_2_0 (L := L) (n := n) (x := x) (v := I 145 n) (by omega) hq2 ho.2.2.2.1) (by decide) rfl ⟨rfl, rfl, rfl⟩ ⟨Nat.le_of_ble_eq_true rfl, rfl, rfl⟩ (Nat.le_of_ble_eq_true rfl) rfl ?_
    refine ex_reti rfl rfl ?_
    refine x_CQ.of (M := xM_m_act) rfl (Nat.le_of_ble_eq_true rfl) ?_
    refine ex_st 2 (pc' := 2) (ls' := [(0, xr 143), (1, xi (↑n)), (2, xi 0), (3, xi x)]) (st' := [xi 0, xr 143]) rfl ?_
    refine ex_pfi rfl (by decide) (rfl : xSH[143]? = some _) (by decide) rfl (by decide) (fun h => by cases h) ?_
    rw [wM_beg]
    refine ex_st 2 (pc' := 7) (ls' := [(0, xr 143), (1, xi (↑n)), (2, xi 0), (3, xi x)]) (st' := [xi (↑n), xr 143]) rfl ?_
    refine ex_call (ct_m_isOfficial2 (c := I 143 0) (by constructor <;> omega) (by rw [wM_f (by omega), wC_f (by omega), aJ_f (by omega)]) (by omega)) (by decide) rfl ⟨rfl, rfl, rfl⟩ ⟨Nat.le_of_ble_eq_true rfl, rfl, rfl⟩ (Nat.le_of_ble_eq_true rfl) rfl ?_
    refine ex_beq rfl (fun h1 => ?_) (fun h1 => ?_)
    · exfalso; omega
    · refine ex_st 4 (pc' := 17) (ls' := [(0, xr 143), (1, xi (↑n)), (2, xi 0), (3, xi x)]) (st' := [xi 2, xi 0, xi 0, xr 143]) rfl ?_
      refine ex_call (ct_m_in (by first | omega | (constructor <;> omega) | assumption) (by first | omega | (constructor <;> omega) | assumption) (by first | omega | (constructor <;> omega) | assumption)) (by decide) rfl ⟨rfl, rfl, rfl⟩ ⟨Nat.le_of_ble_eq_true rfl, rfl, rfl⟩ (Nat.le_of_ble_eq_true rfl) rfl ?_
      refine ex_bne rfl (fun h2 => ?_) (fun h2 => ?_)
      · refine ex_st 1 (pc' := 26) (ls' := [(0, xr 143), (1, xi (↑n)), (2, xi 0), (3, xi x)]) (st' := [xi 0]) rfl ?_
        refine ex_st 1 (pc' := 29) (ls' := [(0, xr 143), (1, xi (↑n)), (2, xi 0), (3, xi x)]) (st' := []) rfl ?_
        refine ex_st 3 (pc' := 32) (ls' := [(0, xr 143), (1, xi (↑n)), (2, xi 0), (3, xi x)]) (st' := [xi x, xi (↑n), xr 143]) rfl ?_
        refine ex_inl (M' := xM_m_clucksAct) (as := [xr 143, xi (↑n), xi x]) (rest := []) (D' := 28) rfl (Nat.le_of_ble_eq_true rfl) (by decide) rfl ⟨rfl, rfl, rfl⟩ ⟨Nat.le_of_ble_eq_true rfl, rfl, rfl⟩ (Nat.le_of_ble_eq_true rfl) rfl ?_
        refine ex_st 3 (pc' := 5) (ls' := [(0, xr 143), (1, xi (↑n)), (2, xi x)]) (st' := [xi (↑n), xr 144]) rfl ?_
        refine ex_iald (j := n) rfl (by decide) (rfl : xSH[144]? = some _) (by omega) (by omega) (by decide) ?_
        rw [wM_f (by omega), wC_f (by omega), aJ_f (by omega), hq]
        refine ex_st 1 (pc' := 40) (ls' := [(0, xr 143), (1, xi (↑n)), (2, xi x)]) (st' := []) rfl ?_
        refine ex_st 2 (pc' := 43) (ls' := [(0, xr 143), (1, xi (↑n)), (2, xi x)]) (st' := [xi 30, xr 143]) rfl ?_
        refine ex_call (ct_m_body (b := 30) (by decide)) (by decide) rfl ⟨rfl, rfl, rfl⟩ ⟨Nat.le_of_ble_eq_true rfl, rfl, rfl⟩ (Nat.le_of_ble_eq_true rfl) rfl ?_
        refine ex_st 5 (pc' := 51) (ls' := [(0, xr 143), (1, xi (↑n)), (2, xi x)]) (st' := [xi (x * 3), xi (↑n), xr 143]) rfl ?_
        refine ex_inl (M' := xM_m_officialClucks) (as := [xr 143, xi (↑n), xi (x * 3)]) (rest := []) (D' := 27) rfl (Nat.le_of_ble_eq_true rfl) (by decide) rfl ⟨rfl, rfl, rfl⟩ ⟨Nat.le_of_ble_eq_true rfl, rfl, rfl⟩ (Nat.le_of_ble_eq_true rfl) rfl ?_
        refine ex_st 2 (pc' := 3) (ls' := [(0, xr 143), (1, xi (↑n)), (2, xi (x * 3))]) (st' := [xi 10, xr 143]) rfl ?_
        refine ex_call (ct_m_body (b := 10) (by decide)) (by decide) rfl ⟨rfl, rfl, rfl⟩ ⟨Nat.le_of_ble_eq_true rfl, rfl, rfl⟩ (Nat.le_of_ble_eq_true rfl) rfl ?_
        refine ex_st 3 (pc' := 9) (ls' := [(0, xr 143), (1, xi (↑n)), (2, xi (x * 3))]) (st' := [xi ((x * 3) + (↑n))]) rfl ?_
        refine ex_reti rfl rfl ?_
        refine ex_reti rfl rfl ?_
        refine ex_st 1 (pc' := 58) (ls' := [(0, xr 143), (1, xi (↑n)), (2, xi 0), (3, xi x)]) (st' := [xi ((x * 3) + (↑n))]) rfl ?_
        refine ex_reti rfl rfl ?_
        exact ⟨x_req (by first | rfl | omega | (congr 1; omega)), _, _, rfl, Rl.act hR (by decide)⟩
      · exfalso; omega
set_option maxRecDepth 8000 in
set_option maxHeartbeats 4000000 in
theorem op_act_2_1 {sc : List Int} {I : Nat → Nat → Int} {L : Nat → Nat → Int64} (hR : Rl I L) {n : Nat} {x : Int} (hv : (n : Int) < I 1 1) (hq : I 144 n = 2) : x_PQ sc xN_G_act [xr 0, xi (↑n), xi 1, xi x] xN_m_act [xr 143, xi (↑n), xi 1, xi x] (xSH, I, L) := by
  obtain ⟨⟨hNs, hNo, hNa, hNb, hNr, hNd, hNg, hNe, hNp, hNk⟩, hI, hT, hX, hC, hH, hQ⟩ := id hR
  have hs := hNs
  unfold RNs at hs
  have ho := hNo n (by omega)
  have hq2 : I (11 + 3 * n) 0 = 2 := by omega
  refine x_CQ.of (M := xM_G_act) rfl (Nat.le_of_ble_eq_true rfl) ?_
  refine ex_st 2 (pc' := 2) (ls' := [(0, xr 0), (1, xi (↑n)), (2, xi 1), (3, xi x)]) (st' := [xi (↑n), xr 0]) rfl ?_
  refine ex_call (ct_G_isOfficial2 (c := I 1 1) (by first | omega | (constructor <;> omega) | assumption | ((repeat rw [x_up_far (by omega)]); first | rfl | omega | (constructor <;> omega))) (by (repeat rw [x_up_far (by omega)]); try rfl) (by first | omega | (constructor <;> omega) | assumption | ((repeat rw [x_up_far (by omega)]); first | rfl | omega | (constructor <;> omega)))) (by decide) rfl ⟨rfl, rfl, rfl⟩ ⟨Nat.le_of_ble_eq_true rfl, rfl, rfl⟩ (Nat.le_of_ble_eq_true rfl) rfl ?_
  refine ex_beq rfl (fun h0 => ?_) (fun h0 => ?_)
  · exfalso; omega
  · refine ex_st 1 (pc' := 9) (ls' := [(0, xr 0), (1, xi (↑n)), (2, xi 1), (3, xi x)]) (st' := [xi 1]) rfl ?_
    refine ex_st 1 (pc' := 12) (ls' := [(0, xr 0), (1, xi (↑n)), (2, xi 1), (3, xi x)]) (st' := []) rfl ?_
    refine ex_st 2 (pc' := 14) (ls' := [(0, xr 0), (1, xi (↑n)), (2, xi 1), (3, xi x)]) (st' := [xi 2, xi 1]) rfl ?_
    refine ex_st 1 (pc' := 27) (ls' := [(0, xr 0), (1, xi (↑n)), (2, xi 1), (3, xi x)]) (st' := []) rfl ?_
    refine ex_st 4 (pc' := 35) (ls' := [(0, xr 0), (1, xi (↑n)), (2, xi 1), (3, xi x)]) (st' := [xi (↑n), xr 2]) rfl ?_
    refine ex_aald (q := 11 + 3 * n) (j := n) rfl (by decide) (rfl : xSH[2]? = some _) (by decide) (by omega) (by omega) (by decide) (x_aa2 n (by omega)) (by omega) ?_
    refine ex_st 7 (pc' := 47) (ls' := [(4, xr (11 + 3 * n)), (0, xr 0), (1, xi (↑n)), (2, xi 1), (3, xi x)]) (st' := [xi x, xr (11 + 3 * n), xi (↑n), xi 1, xr 104]) rfl ?_
    refine ex_call (ct_A_begin_2_1 (L := L) (n := n) (x := x) (v := I 145 n) (by omega) hq2 ho.2.2.2.1) (by decide) rfl ⟨rfl, rfl, rfl⟩ ⟨Nat.le_of_ble_eq_true rfl, rfl, rfl⟩ (Nat.le_of_ble_eq_true rfl) rfl ?_
    refine ex_reti rfl rfl ?_
    refine x_CQ.of (M := xM_m_act) rfl (Nat.le_of_ble_eq_true rfl) ?_
    refine ex_st 2 (pc' := 2) (ls' := [(0, xr 143), (1, xi (↑n)), (2, xi 1), (3, xi x)]) (st' := [xi 0, xr 143]) rfl ?_
    refine ex_pfi rfl (by decide) (rfl : xSH[143]? = some _) (by decide) rfl (by decide) (fun h => by cases h) ?_
    rw [wM_beg]
    refine ex_st 2 (pc' := 7) (ls' := [(0, xr 143), (1, xi (↑n)), (2, xi 1), (3, xi x)]) (st' := [xi (↑n), xr 143]) rfl ?_
    refine ex_call (ct_m_isOfficial2 (c := I 143 0) (by constructor <;> omega) (by rw [wM_f (by omega), wC_f (by omega), aJ_f (by omega)]) (by omega)) (by decide) rfl ⟨rfl, rfl, rfl⟩ ⟨Nat.le_of_ble_eq_true rfl, rfl, rfl⟩ (Nat.le_of_ble_eq_true rfl) rfl ?_
    refine ex_beq rfl (fun h1 => ?_) (fun h1 => ?_)
    · exfalso; omega
    · refine ex_st 4 (pc' := 17) (ls' := [(0, xr 143), (1, xi (↑n)), (2, xi 1), (3, xi x)]) (st' := [xi 2, xi 0, xi 1, xr 143]) rfl ?_
      refine ex_call (ct_m_in (by first | omega | (constructor <;> omega) | assumption) (by first | omega | (constructor <;> omega) | assumption) (by first | omega | (constructor <;> omega) | assumption)) (by decide) rfl ⟨rfl, rfl, rfl⟩ ⟨Nat.le_of_ble_eq_true rfl, rfl, rfl⟩ (Nat.le_of_ble_eq_true rfl) rfl ?_
      refine ex_bne rfl (fun h2 => ?_) (fun h2 => ?_)
      · refine ex_st 1 (pc' := 26) (ls' := [(0, xr 143), (1, xi (↑n)), (2, xi 1), (3, xi x)]) (st' := [xi 1]) rfl ?_
        refine ex_st 1 (pc' := 38) (ls' := [(0, xr 143), (1, xi (↑n)), (2, xi 1), (3, xi x)]) (st' := []) rfl ?_
        refine ex_st 2 (pc' := 40) (ls' := [(0, xr 143), (1, xi (↑n)), (2, xi 1), (3, xi x)]) (st' := [xi 1, xi 1]) rfl ?_
        refine ex_st 1 (pc' := 43) (ls' := [(0, xr 143), (1, xi (↑n)), (2, xi 1), (3, xi x)]) (st' := []) rfl ?_
        refine ex_st 3 (pc' := 46) (ls' := [(0, xr 143), (1, xi (↑n)), (2, xi 1), (3, xi x)]) (st' := [xi x, xi (↑n), xr 143]) rfl ?_
        refine ex_inl (M' := xM_m_looksAct) (as := [xr 143, xi (↑n), xi x]) (rest := []) (D' := 28) rfl (Nat.le_of_ble_eq_true rfl) (by decide) rfl ⟨rfl, rfl, rfl⟩ ⟨Nat.le_of_ble_eq_true rfl, rfl, rfl⟩ (Nat.le_of_ble_eq_true rfl) rfl ?_
        refine ex_st 3 (pc' := 5) (ls' := [(0, xr 143), (1, xi (↑n)), (2, xi x)]) (st' := [xi (↑n), xr 144]) rfl ?_
        refine ex_iald (j := n) rfl (by decide) (rfl : xSH[144]? = some _) (by omega) (by omega) (by decide) ?_
        rw [wM_f (by omega), wC_f (by omega), aJ_f (by omega), hq]
        refine ex_st 1 (pc' := 84) (ls' := [(0, xr 143), (1, xi (↑n)), (2, xi x)]) (st' := []) rfl ?_
        refine ex_st 3 (pc' := 87) (ls' := [(0, xr 143), (1, xi (↑n)), (2, xi x)]) (st' := [xi x, xi (↑n), xr 143]) rfl ?_
        refine ex_inl (M' := xM_m_officialLooks) (as := [xr 143, xi (↑n), xi x]) (rest := []) (D' := 27) rfl (Nat.le_of_ble_eq_true rfl) (by decide) rfl ⟨rfl, rfl, rfl⟩ ⟨Nat.le_of_ble_eq_true rfl, rfl, rfl⟩ (Nat.le_of_ble_eq_true rfl) rfl ?_
        refine ex_st 2 (pc' := 3) (ls' := [(0, xr 143), (1, xi (↑n)), (2, xi x)]) (st' := [xi 11, xr 143]) rfl ?_
        refine ex_call (ct_m_body (b := 11) (by decide)) (by decide) rfl ⟨rfl, rfl, rfl⟩ ⟨Nat.le_of_ble_eq_true rfl, rfl, rfl⟩ (Nat.le_of_ble_eq_true rfl) rfl ?_
        refine ex_st 3 (pc' := 9) (ls' := [(0, xr 143), (1, xi (↑n)), (2, xi x)]) (st' := [xi x, xi (↑n), xr 143]) rfl ?_
        refine ex_inl (M' := xM_m_clucksAct) (as := [xr 143, xi (↑n), xi x]) (rest := []) (D' := 26) rfl (Nat.le_of_ble_eq_true rfl) (by decide) rfl ⟨rfl, rfl, rfl⟩ ⟨Nat.le_of_ble_eq_true rfl, rfl, rfl⟩ (Nat.le_of_ble_eq_true rfl) rfl ?_
        refine ex_st 3 (pc' := 5) (ls' := [(0, xr 143), (1, xi (↑n)), (2, xi x)]) (st' := [xi (↑n), xr 144]) rfl ?_
        refine ex_iald (j := n) rfl (by decide) (rfl : xSH[144]? = some _) (by omega) (by omega) (by decide) ?_
        rw [wM_f (by omega), wC_f (by omega), aJ_f (by omega), hq]
        refine ex_st 1 (pc' := 40) (ls' := [(0, xr 143), (1, xi (↑n)), (2, xi x)]) (st' := []) rfl ?_
        refine ex_st 2 (pc' := 43) (ls' := [(0, xr 143), (1, xi (↑n)), (2, xi x)]) (st' := [xi 30, xr 143]) rfl ?_
        refine ex_call (ct_m_body (b := 30) (by decide)) (by decide) rfl ⟨rfl, rfl, rfl⟩ ⟨Nat.le_of_ble_eq_true rfl, rfl, rfl⟩ (Nat.le_of_ble_eq_true rfl) rfl ?_
        refine ex_st 5 (pc' := 51) (ls' := [(0, xr 143), (1, xi (↑n)), (2, xi x)]) (st' := [xi (x * 3), xi (↑n), xr 143]) rfl ?_
        refine ex_inl (M' := xM_m_officialClucks) (as := [xr 143, xi (↑n), xi (x * 3)]) (rest := []) (D' := 25) rfl (Nat.le_of_ble_eq_true rfl) (by decide) rfl ⟨rfl, rfl, rfl⟩ ⟨Nat.le_of_ble_eq_true rfl, rfl, rfl⟩ (Nat.le_of_ble_eq_true rfl) rfl ?_
        refine ex_st 2 (pc' := 3) (ls' := [(0, xr 143), (1, xi (↑n)), (2, xi (x * 3))]) (st' := [xi 10, xr 143]) rfl ?_
        refine ex_call (ct_m_body (b := 10) (by decide)) (by decide) rfl ⟨rfl, rfl, rfl⟩ ⟨Nat.le_of_ble_eq_true rfl, rfl, rfl⟩ (Nat.le_of_ble_eq_true rfl) rfl ?_
        refine ex_st 3 (pc' := 9) (ls' := [(0, xr 143), (1, xi (↑n)), (2, xi (x * 3))]) (st' := [xi ((x * 3) + (↑n))]) rfl ?_
        refine ex_reti rfl rfl ?_
        refine ex_reti rfl rfl ?_
        refine ex_st 3 (pc' := 17) (ls' := [(0, xr 143), (1, xi (↑n)), (2, xi x)]) (st' := [xi (↑n), xr 145, xi ((x * 3) + (↑n))]) rfl ?_
        refine ex_iald (j := n) rfl (by decide) (rfl : xSH[145]? = some _) (by omega) (by omega) (by decide) ?_
        rw [wM_f (by omega), wC_f (by omega), aJ_f (by omega)]
        refine ex_st 1 (pc' := 19) (ls' := [(0, xr 143), (1, xi (↑n)), (2, xi x)]) (st' := [xi (((x * 3) + (↑n)) - (I 145 n))]) rfl ?_
        refine ex_reti rfl rfl ?_
        refine ex_reti rfl rfl ?_
        refine ex_st 1 (pc' := 58) (ls' := [(0, xr 143), (1, xi (↑n)), (2, xi 1), (3, xi x)]) (st' := [xi (((x * 3) + (↑n)) - (I 145 n))]) rfl ?_
        refine ex_reti rfl rfl ?_
        exact ⟨x_req (by first | rfl | omega | (congr 1; omega)), _, _, rfl, Rl.act hR (by decide)⟩
      · exfalso; omega
set_option maxRecDepth 8000 in
set_option maxHeartbeats 4000000 in
theorem op_act_2_2 {sc : List Int} {I : Nat → Nat → Int} {L : Nat → Nat → Int64} (hR : Rl I L) {n : Nat} {x : Int} (hv : (n : Int) < I 1 1) (hq : I 144 n = 2) : x_PQ sc xN_G_act [xr 0, xi (↑n), xi 2, xi x] xN_m_act [xr 143, xi (↑n), xi 2, xi x] (xSH, I, L) := by
  obtain ⟨⟨hNs, hNo, hNa, hNb, hNr, hNd, hNg, hNe, hNp, hNk⟩, hI, hT, hX, hC, hH, hQ⟩ := id hR
  have hs := hNs
  unfold RNs at hs
  have ho := hNo n (by omega)
  have hq2 : I (11 + 3 * n) 0 = 2 := by omega
  refine x_CQ.of (M := xM_G_act) rfl (Nat.le_of_ble_eq_true rfl) ?_
  refine ex_st 2 (pc' := 2) (ls' := [(0, xr 0), (1, xi (↑n)), (2, xi 2), (3, xi x)]) (st' := [xi (↑n), xr 0]) rfl ?_
  refine ex_call (ct_G_isOfficial2 (c := I 1 1) (by first | omega | (constructor <;> omega) | assumption | ((repeat rw [x_up_far (by omega)]); first | rfl | omega | (constructor <;> omega))) (by (repeat rw [x_up_far (by omega)]); try rfl) (by first | omega | (constructor <;> omega) | assumption | ((repeat rw [x_up_far (by omega)]); first | rfl | omega | (constructor <;> omega)))) (by decide) rfl ⟨rfl, rfl, rfl⟩ ⟨Nat.le_of_ble_eq_true rfl, rfl, rfl⟩ (Nat.le_of_ble_eq_true rfl) rfl ?_
  refine ex_beq rfl (fun h0 => ?_) (fun h0 => ?_)
  · exfalso; omega
  · refine ex_st 1 (pc' := 9) (ls' := [(0, xr 0), (1, xi (↑n)), (2, xi 2), (3, xi x)]) (st' := [xi 2]) rfl ?_
    refine ex_st 1 (pc' := 12) (ls' := [(0, xr 0), (1, xi (↑n)), (2, xi 2), (3, xi x)]) (st' := []) rfl ?_
    refine ex_st 2 (pc' := 14) (ls' := [(0, xr 0), (1, xi (↑n)), (2, xi 2), (3, xi x)]) (st' := [xi 2, xi 2]) rfl ?_
    refine ex_st 1 (pc' := 27) (ls' := [(0, xr 0), (1, xi (↑n)), (2, xi 2), (3, xi x)]) (st' := []) rfl ?_
    refine ex_st 4 (pc' := 35) (ls' := [(0, xr 0), (1, xi (↑n)), (2, xi 2), (3, xi x)]) (st' := [xi (↑n), xr 2]) rfl ?_
    refine ex_aald (q := 11 + 3 * n) (j := n) rfl (by decide) (rfl : xSH[2]? = some _) (by decide) (by omega) (by omega) (by decide) (x_aa2 n (by omega)) (by omega) ?_
    refine ex_st 7 (pc' := 47) (ls' := [(4, xr (11 + 3 * n)), (0, xr 0), (1, xi (↑n)), (2, xi 2), (3, xi x)]) (st' := [xi x, xr (11 + 3 * n), xi (↑n), xi 2, xr 104]) rfl ?_
    refine ex_call (ct_A_begin_2_2 (L := L) (n := n) (x := x) (v := I 145 n) (by omega) hq2 ho.2.2.2.1) (by decide) rfl ⟨rfl, rfl, rfl⟩ ⟨Nat.le_of_ble_eq_true rfl, rfl, rfl⟩ (Nat.le_of_ble_eq_true rfl) rfl ?_
    refine ex_reti rfl rfl ?_
    refine x_CQ.of (M := xM_m_act) rfl (Nat.le_of_ble_eq_true rfl) ?_
    refine ex_st 2 (pc' := 2) (ls' := [(0, xr 143), (1, xi (↑n)), (2, xi 2), (3, xi x)]) (st' := [xi 0, xr 143]) rfl ?_
    refine ex_pfi rfl (by decide) (rfl : xSH[143]? = some _) (by decide) rfl (by decide) (fun h => by cases h) ?_
    rw [wM_beg]
    refine ex_st 2 (pc' := 7) (ls' := [(0, xr 143), (1, xi (↑n)), (2, xi 2), (3, xi x)]) (st' := [xi (↑n), xr 143]) rfl ?_
    refine ex_call (ct_m_isOfficial2 (c := I 143 0) (by constructor <;> omega) (by rw [wM_f (by omega), wC_f (by omega), aJ_f (by omega)]) (by omega)) (by decide) rfl ⟨rfl, rfl, rfl⟩ ⟨Nat.le_of_ble_eq_true rfl, rfl, rfl⟩ (Nat.le_of_ble_eq_true rfl) rfl ?_
    refine ex_beq rfl (fun h1 => ?_) (fun h1 => ?_)
    · exfalso; omega
    · refine ex_st 4 (pc' := 17) (ls' := [(0, xr 143), (1, xi (↑n)), (2, xi 2), (3, xi x)]) (st' := [xi 2, xi 0, xi 2, xr 143]) rfl ?_
      refine ex_call (ct_m_in (by first | omega | (constructor <;> omega) | assumption) (by first | omega | (constructor <;> omega) | assumption) (by first | omega | (constructor <;> omega) | assumption)) (by decide) rfl ⟨rfl, rfl, rfl⟩ ⟨Nat.le_of_ble_eq_true rfl, rfl, rfl⟩ (Nat.le_of_ble_eq_true rfl) rfl ?_
      refine ex_bne rfl (fun h2 => ?_) (fun h2 => ?_)
      · refine ex_st 1 (pc' := 26) (ls' := [(0, xr 143), (1, xi (↑n)), (2, xi 2), (3, xi x)]) (st' := [xi 2]) rfl ?_
        refine ex_st 1 (pc' := 38) (ls' := [(0, xr 143), (1, xi (↑n)), (2, xi 2), (3, xi x)]) (st' := []) rfl ?_
        refine ex_st 2 (pc' := 40) (ls' := [(0, xr 143), (1, xi (↑n)), (2, xi 2), (3, xi x)]) (st' := [xi 1, xi 2]) rfl ?_
        refine ex_st 1 (pc' := 52) (ls' := [(0, xr 143), (1, xi (↑n)), (2, xi 2), (3, xi x)]) (st' := []) rfl ?_
        refine ex_st 3 (pc' := 55) (ls' := [(0, xr 143), (1, xi (↑n)), (2, xi 2), (3, xi x)]) (st' := [xi x, xi (↑n), xr 143]) rfl ?_
        refine ex_inl (M' := xM_m_tellsAct) (as := [xr 143, xi (↑n), xi x]) (rest := []) (D' := 28) rfl (Nat.le_of_ble_eq_true rfl) (by decide) rfl ⟨rfl, rfl, rfl⟩ ⟨Nat.le_of_ble_eq_true rfl, rfl, rfl⟩ (Nat.le_of_ble_eq_true rfl) rfl ?_
        refine ex_st 3 (pc' := 5) (ls' := [(0, xr 143), (1, xi (↑n)), (2, xi x)]) (st' := [xi (↑n), xr 144]) rfl ?_
        refine ex_iald (j := n) rfl (by decide) (rfl : xSH[144]? = some _) (by omega) (by omega) (by decide) ?_
        rw [wM_f (by omega), wC_f (by omega), aJ_f (by omega), hq]
        refine ex_st 1 (pc' := 73) (ls' := [(0, xr 143), (1, xi (↑n)), (2, xi x)]) (st' := []) rfl ?_
        refine ex_st 3 (pc' := 76) (ls' := [(0, xr 143), (1, xi (↑n)), (2, xi x)]) (st' := [xi x, xi (↑n), xr 143]) rfl ?_
        refine ex_inl (M' := xM_m_officialTells) (as := [xr 143, xi (↑n), xi x]) (rest := []) (D' := 27) rfl (Nat.le_of_ble_eq_true rfl) (by decide) rfl ⟨rfl, rfl, rfl⟩ ⟨Nat.le_of_ble_eq_true rfl, rfl, rfl⟩ (Nat.le_of_ble_eq_true rfl) rfl ?_
        refine ex_st 2 (pc' := 3) (ls' := [(0, xr 143), (1, xi (↑n)), (2, xi x)]) (st' := [xi 12, xr 143]) rfl ?_
        refine ex_call (ct_m_body (b := 12) (by decide)) (by decide) rfl ⟨rfl, rfl, rfl⟩ ⟨Nat.le_of_ble_eq_true rfl, rfl, rfl⟩ (Nat.le_of_ble_eq_true rfl) rfl ?_
        refine ex_st 3 (pc' := 9) (ls' := [(0, xr 143), (1, xi (↑n)), (2, xi x)]) (st' := [xi x, xi (↑n), xr 143]) rfl ?_
        refine ex_inl (M' := xM_m_looksAct) (as := [xr 143, xi (↑n), xi x]) (rest := []) (D' := 26) rfl (Nat.le_of_ble_eq_true rfl) (by decide) rfl ⟨rfl, rfl, rfl⟩ ⟨Nat.le_of_ble_eq_true rfl, rfl, rfl⟩ (Nat.le_of_ble_eq_true rfl) rfl ?_
        refine ex_st 3 (pc' := 5) (ls' := [(0, xr 143), (1, xi (↑n)), (2, xi x)]) (st' := [xi (↑n), xr 144]) rfl ?_
        refine ex_iald (j := n) rfl (by decide) (rfl : xSH[144]? = some _) (by omega) (by omega) (by decide) ?_
        rw [wM_f (by omega), wC_f (by omega), aJ_f (by omega), hq]
        refine ex_st 1 (pc' := 84) (ls' := [(0, xr 143), (1, xi (↑n)), (2, xi x)]) (st' := []) rfl ?_
        refine ex_st 3 (pc' := 87) (ls' := [(0, xr 143), (1, xi (↑n)), (2, xi x)]) (st' := [xi x, xi (↑n), xr 143]) rfl ?_
        refine ex_inl (M' := xM_m_officialLooks) (as := [xr 143, xi (↑n), xi x]) (rest := []) (D' := 25) rfl (Nat.le_of_ble_eq_true rfl) (by decide) rfl ⟨rfl, rfl, rfl⟩ ⟨Nat.le_of_ble_eq_true rfl, rfl, rfl⟩ (Nat.le_of_ble_eq_true rfl) rfl ?_
        refine ex_st 2 (pc' := 3) (ls' := [(0, xr 143), (1, xi (↑n)), (2, xi x)]) (st' := [xi 11, xr 143]) rfl ?_
        refine ex_call (ct_m_body (b := 11) (by decide)) (by decide) rfl ⟨rfl, rfl, rfl⟩ ⟨Nat.le_of_ble_eq_true rfl, rfl, rfl⟩ (Nat.le_of_ble_eq_true rfl) rfl ?_
        refine ex_st 3 (pc' := 9) (ls' := [(0, xr 143), (1, xi (↑n)), (2, xi x)]) (st' := [xi x, xi (↑n), xr 143]) rfl ?_
        refine ex_inl (M' := xM_m_clucksAct) (as := [xr 143, xi (↑n), xi x]) (rest := []) (D' := 24) rfl (Nat.le_of_ble_eq_true rfl) (by decide) rfl ⟨rfl, rfl, rfl⟩ ⟨Nat.le_of_ble_eq_true rfl, rfl, rfl⟩ (Nat.le_of_ble_eq_true rfl) rfl ?_
        refine ex_st 3 (pc' := 5) (ls' := [(0, xr 143), (1, xi (↑n)), (2, xi x)]) (st' := [xi (↑n), xr 144]) rfl ?_
        refine ex_iald (j := n) rfl (by decide) (rfl : xSH[144]? = some _) (by omega) (by omega) (by decide) ?_
        rw [wM_f (by omega), wC_f (by omega), aJ_f (by omega), hq]
        refine ex_st 1 (pc' := 40) (ls' := [(0, xr 143), (1, xi (↑n)), (2, xi x)]) (st' := []) rfl ?_
        refine ex_st 2 (pc' := 43) (ls' := [(0, xr 143), (1, xi (↑n)), (2, xi x)]) (st' := [xi 30, xr 143]) rfl ?_
        refine ex_call (ct_m_body (b := 30) (by decide)) (by decide) rfl ⟨rfl, rfl, rfl⟩ ⟨Nat.le_of_ble_eq_true rfl, rfl, rfl⟩ (Nat.le_of_ble_eq_true rfl) rfl ?_
        refine ex_st 5 (pc' := 51) (ls' := [(0, xr 143), (1, xi (↑n)), (2, xi x)]) (st' := [xi (x * 3), xi (↑n), xr 143]) rfl ?_
        refine ex_inl (M' := xM_m_officialClucks) (as := [xr 143, xi (↑n), xi (x * 3)]) (rest := []) (D' := 23) rfl (Nat.le_of_ble_eq_true rfl) (by decide) rfl ⟨rfl, rfl, rfl⟩ ⟨Nat.le_of_ble_eq_true rfl, rfl, rfl⟩ (Nat.le_of_ble_eq_true rfl) rfl ?_
        refine ex_st 2 (pc' := 3) (ls' := [(0, xr 143), (1, xi (↑n)), (2, xi (x * 3))]) (st' := [xi 10, xr 143]) rfl ?_
        refine ex_call (ct_m_body (b := 10) (by decide)) (by decide) rfl ⟨rfl, rfl, rfl⟩ ⟨Nat.le_of_ble_eq_true rfl, rfl, rfl⟩ (Nat.le_of_ble_eq_true rfl) rfl ?_
        refine ex_st 3 (pc' := 9) (ls' := [(0, xr 143), (1, xi (↑n)), (2, xi (x * 3))]) (st' := [xi ((x * 3) + (↑n))]) rfl ?_
        refine ex_reti rfl rfl ?_
        refine ex_reti rfl rfl ?_
        refine ex_st 3 (pc' := 17) (ls' := [(0, xr 143), (1, xi (↑n)), (2, xi x)]) (st' := [xi (↑n), xr 145, xi ((x * 3) + (↑n))]) rfl ?_
        refine ex_iald (j := n) rfl (by decide) (rfl : xSH[145]? = some _) (by omega) (by omega) (by decide) ?_
        rw [wM_f (by omega), wC_f (by omega), aJ_f (by omega)]
        refine ex_st 1 (pc' := 19) (ls' := [(0, xr 143), (1, xi (↑n)), (2, xi x)]) (st' := [xi (((x * 3) + (↑n)) - (I 145 n))]) rfl ?_
        refine ex_reti rfl rfl ?_
        refine ex_reti rfl rfl ?_
        refine ex_st 2 (pc' := 14) (ls' := [(0, xr 143), (1, xi (↑n)), (2, xi x)]) (st' := [xi ((((x * 3) + (↑n)) - (I 145 n)) * 2)]) rfl ?_
        refine ex_reti rfl rfl ?_
        refine ex_reti rfl rfl ?_
        refine ex_reti rfl rfl ?_
        exact ⟨x_req (by first | rfl | omega | (congr 1; omega)), _, _, rfl, Rl.act hR (by decide)⟩
      · exfalso; omega
set_option maxRecDepth 8000 in
set_option maxHeartbeats 4000000 in
theorem op_act_3_0 {sc : List Int} {I : Nat → Nat → Int} {L : Nat → Nat → Int64} (hR : Rl I L) {n : Nat} {x : Int} (hv : (n : Int) < I 1 1) (hq : I 144 n = 3) : x_PQ sc xN_G_act [xr 0, xi (↑n), xi 0, xi x] xN_m_act [xr 143, xi (↑n), xi 0, xi x] (xSH, I, L) := by
  obtain ⟨⟨hNs, hNo, hNa, hNb, hNr, hNd, hNg, hNe, hNp, hNk⟩, hI, hT, hX, hC, hH, hQ⟩ := id hR
  have hs := hNs
  unfold RNs at hs
  have ho := hNo n (by omega)
  have hq2 : I (11 + 3 * n) 0 = 3 := by omega
  refine x_CQ.of (M := xM_G_act) rfl (Nat.le_of_ble_eq_true rfl) ?_
  refine ex_st 2 (pc' := 2) (ls' := [(0, xr 0), (1, xi (↑n)), (2, xi 0), (3, xi x)]) (st' := [xi (↑n), xr 0]) rfl ?_
  refine ex_call (ct_G_isOfficial2 (c := I 1 1) (by first | omega | (constructor <;> omega) | assumption | ((repeat rw [x_up_far (by omega)]); first | rfl | omega | (constructor <;> omega))) (by (repeat rw [x_up_far (by omega)]); try rfl) (by first | omega | (constructor <;> omega) | assumption | ((repeat rw [x_up_far (by omega)]); first | rfl | omega | (constructor <;> omega)))) (by decide) rfl ⟨rfl, rfl, rfl⟩ ⟨Nat.le_of_ble_eq_true rfl, rfl, rfl⟩ (Nat.le_of_ble_eq_true rfl) rfl ?_
  refine ex_beq rfl (fun h0 => ?_) (fun h0 => ?_)
  · exfalso; omega
  · refine ex_st 1 (pc' := 9) (ls' := [(0, xr 0), (1, xi (↑n)), (2, xi 0), (3, xi x)]) (st' := [xi 0]) rfl ?_
    refine ex_st 1 (pc' := 12) (ls' := [(0, xr 0), (1, xi (↑n)), (2, xi 0), (3, xi x)]) (st' := []) rfl ?_
    refine ex_st 2 (pc' := 14) (ls' := [(0, xr 0), (1, xi (↑n)), (2, xi 0), (3, xi x)]) (st' := [xi 2, xi 0]) rfl ?_
    refine ex_st 1 (pc' := 27) (ls' := [(0, xr 0), (1, xi (↑n)), (2, xi 0), (3, xi x)]) (st' := []) rfl ?_
    refine ex_st 4 (pc' := 35) (ls' := [(0, xr 0), (1, xi (↑n)), (2, xi 0), (3, xi x)]) (st' := [xi (↑n), xr 2]) rfl ?_
    refine ex_aald (q := 11 + 3 * n) (j := n) rfl (by decide) (rfl : xSH[2]? = some _) (by decide) (by omega) (by omega) (by decide) (x_aa2 n (by omega)) (by omega) ?_
    refine ex_st 7 (pc' := 47) (ls' := [(4, xr (11 + 3 * n)), (0, xr 0), (1, xi (↑n)), (2, xi 0), (3, xi x)]) (st' := [xi x, xr (11 + 3 * n), xi (↑n), xi 0, xr 104]) rfl ?_
    refine ex_call (ct_A_begin_3_0 (L := L) (n := n) (x := x) (v := I 145 n) (by omega) hq2 ho.2.2.2.1) (by decide) rfl ⟨rfl, rfl, rfl⟩ ⟨Nat.le_of_ble_eq_true rfl, rfl, rfl⟩ (Nat.le_of_ble_eq_true rfl) rfl ?_
    refine ex_reti rfl rfl ?_
    refine x_CQ.of (M := xM_m_act) rfl (Nat.le_of_ble_eq_true rfl) ?_
    refine ex_st 2 (pc' := 2) (ls' := [(0, xr 143), (1, xi (↑n)), (2, xi 0), (3, xi x)]) (st' := [xi 0, xr 143]) rfl ?_
    refine ex_pfi rfl (by decide) (rfl : xSH[143]? = some _) (by decide) rfl (by decide) (fun h => by cases h) ?_
    rw [wM_beg]
    refine ex_st 2 (pc' := 7) (ls' := [(0, xr 143), (1, xi (↑n)), (2, xi 0), (3, xi x)]) (st' := [xi (↑n), xr 143]) rfl ?_
    refine ex_call (ct_m_isOfficial2 (c := I 143 0) (by constructor <;> omega) (by rw [wM_f (by omega), wC_f (by omega), aJ_f (by omega)]) (by omega)) (by decide) rfl ⟨rfl, rfl, rfl⟩ ⟨Nat.le_of_ble_eq_true rfl, rfl, rfl⟩ (Nat.le_of_ble_eq_true rfl) rfl ?_
    refine ex_beq rfl (fun h1 => ?_) (fun h1 => ?_)
    · exfalso; omega
    · refine ex_st 4 (pc' := 17) (ls' := [(0, xr 143), (1, xi (↑n)), (2, xi 0), (3, xi x)]) (st' := [xi 2, xi 0, xi 0, xr 143]) rfl ?_
      refine ex_call (ct_m_in (by first | omega | (constructor <;> omega) | assumption) (by first | omega | (constructor <;> omega) | assumption) (by first | omega | (constructor <;> omega) | assumption)) (by decide) rfl ⟨rfl, rfl, rfl⟩ ⟨Nat.le_of_ble_eq_true rfl, rfl, rfl⟩ (Nat.le_of_ble_eq_true rfl) rfl ?_
      refine ex_bne rfl (fun h2 => ?_) (fun h2 => ?_)
      · refine ex_st 1 (pc' := 26) (ls' := [(0, xr 143), (1, xi (↑n)), (2, xi 0), (3, xi x)]) (st' := [xi 0]) rfl ?_
        refine ex_st 1 (pc' := 29) (ls' := [(0, xr 143), (1, xi (↑n)), (2, xi 0), (3, xi x)]) (st' := []) rfl ?_
        refine ex_st 3 (pc' := 32) (ls' := [(0, xr 143), (1, xi (↑n)), (2, xi 0), (3, xi x)]) (st' := [xi x, xi (↑n), xr 143]) rfl ?_
        refine ex_inl (M' := xM_m_clucksAct) (as := [xr 143, xi (↑n), xi x]) (rest := []) (D' := 28) rfl (Nat.le_of_ble_eq_true rfl) (by decide) rfl ⟨rfl, rfl, rfl⟩ ⟨Nat.le_of_ble_eq_true rfl, rfl, rfl⟩ (Nat.le_of_ble_eq_true rfl) rfl ?_
        refine ex_st 3 (pc' := 5) (ls' := [(0, xr 143), (1, xi (↑n)), (2, xi x)]) (st' := [xi (↑n), xr 144]) rfl ?_
        refine ex_iald (j := n) rfl (by decide) (rfl : xSH[144]? = some _) (by omega) (by omega) (by decide) ?_
        rw [wM_f (by omega), wC_f (by omega), aJ_f (by omega), hq]
        refine ex_st 1 (pc' := 89) (ls' := [(0, xr 143), (1, xi (↑n)), (2, xi x)]) (st' := []) rfl ?_
        refine ex_st 3 (pc' := 92) (ls' := [(0, xr 143), (1, xi (↑n)), (2, xi x)]) (st' := [xi x, xi (↑n), xr 143]) rfl ?_
        refine ex_inl (M' := xM_m_officialClucks) (as := [xr 143, xi (↑n), xi x]) (rest := []) (D' := 27) rfl (Nat.le_of_ble_eq_true rfl) (by decide) rfl ⟨rfl, rfl, rfl⟩ ⟨Nat.le_of_ble_eq_true rfl, rfl, rfl⟩ (Nat.le_of_ble_eq_true rfl) rfl ?_
        refine ex_st 2 (pc' := 3) (ls' := [(0, xr 143), (1, xi (↑n)), (2, xi x)]) (st' := [xi 10, xr 143]) rfl ?_
        refine ex_call (ct_m_body (b := 10) (by decide)) (by decide) rfl ⟨rfl, rfl, rfl⟩ ⟨Nat.le_of_ble_eq_true rfl, rfl, rfl⟩ (Nat.le_of_ble_eq_true rfl) rfl ?_
        refine ex_st 3 (pc' := 9) (ls' := [(0, xr 143), (1, xi (↑n)), (2, xi x)]) (st' := [xi (x + (↑n))]) rfl ?_
        refine ex_reti rfl rfl ?_
        refine ex_reti rfl rfl ?_
        refine ex_st 1 (pc' := 58) (ls' := [(0, xr 143), (1, xi (↑n)), (2, xi 0), (3, xi x)]) (st' := [xi (x + (↑n))]) rfl ?_
        refine ex_reti rfl rfl ?_
        exact ⟨x_req (by first | rfl | omega | (congr 1; omega)), _, _, rfl, Rl.act hR (by decide)⟩
      · exfalso; omega
set_option maxRecDepth 8000 in
set_option maxHeartbeats 4000000 in
theorem op_act_3_1 {sc : List Int} {I : Nat → Nat → Int} {L : Nat → Nat → Int64} (hR : Rl I L) {n : Nat} {x : Int} (hv : (n : Int) < I 1 1) (hq : I 144 n = 3) : x_PQ sc xN_G_act [xr 0, xi (↑n), xi 1, xi x] xN_m_act [xr 143, xi (↑n), xi 1, xi x] (xSH, I, L) := by
  obtain ⟨⟨hNs, hNo, hNa, hNb, hNr, hNd, hNg, hNe, hNp, hNk⟩, hI, hT, hX, hC, hH, hQ⟩ := id hR
  have hs := hNs
  unfold RNs at hs
  have ho := hNo n (by omega)
  have hq2 : I (11 + 3 * n) 0 = 3 := by omega
  refine x_CQ.of (M := xM_G_act) rfl (Nat.le_of_ble_eq_true rfl) ?_
  refine ex_st 2 (pc' := 2) (ls' := [(0, xr 0), (1, xi (↑n)), (2, xi 1), (3, xi x)]) (st' := [xi (↑n), xr 0]) rfl ?_
  refine ex_call (ct_G_isOfficial2 (c := I 1 1) (by first | omega | (constructor <;> omega) | assumption | ((repeat rw [x_up_far (by omega)]); first | rfl | omega | (constructor <;> omega))) (by (repeat rw [x_up_far (by omega)]); try rfl) (by first | omega | (constructor <;> omega) | assumption | ((repeat rw [x_up_far (by omega)]); first | rfl | omega | (constructor <;> omega)))) (by decide) rfl ⟨rfl, rfl, rfl⟩ ⟨Nat.le_of_ble_eq_true rfl, rfl, rfl⟩ (Nat.le_of_ble_eq_true rfl) rfl ?_
  refine ex_beq rfl (fun h0 => ?_) (fun h0 => ?_)
  · exfalso; omega
  · refine ex_st 1 (pc' := 9) (ls' := [(0, xr 0), (1, xi (↑n)), (2, xi 1), (3, xi x)]) (st' := [xi 1]) rfl ?_
    refine ex_st 1 (pc' := 12) (ls' := [(0, xr 0), (1, xi (↑n)), (2, xi 1), (3, xi x)]) (st' := []) rfl ?_
    refine ex_st 2 (pc' := 14) (ls' := [(0, xr 0), (1, xi (↑n)), (2, xi 1), (3, xi x)]) (st' := [xi 2, xi 1]) rfl ?_
    refine ex_st 1 (pc' := 27) (ls' := [(0, xr 0), (1, xi (↑n)), (2, xi 1), (3, xi x)]) (st' := []) rfl ?_
    refine ex_st 4 (pc' := 35) (ls' := [(0, xr 0), (1, xi (↑n)), (2, xi 1), (3, xi x)]) (st' := [xi (↑n), xr 2]) rfl ?_
    refine ex_aald (q := 11 + 3 * n) (j := n) rfl (by decide) (rfl : xSH[2]? = some _) (by decide) (by omega) (by omega) (by decide) (x_aa2 n (by omega)) (by omega) ?_
    refine ex_st 7 (pc' := 47) (ls' := [(4, xr (11 + 3 * n)), (0, xr 0), (1, xi (↑n)), (2, xi 1), (3, xi x)]) (st' := [xi x, xr (11 + 3 * n), xi (↑n), xi 1, xr 104]) rfl ?_
    refine ex_call (ct_A_begin_3_1 (L := L) (n := n) (x := x) (v := I 145 n) (by omega) hq2 ho.2.2.2.1) (by decide) rfl ⟨rfl, rfl, rfl⟩ ⟨Nat.le_of_ble_eq_true rfl, rfl, rfl⟩ (Nat.le_of_ble_eq_true rfl) rfl ?_
    refine ex_reti rfl rfl ?_
    refine x_CQ.of (M := xM_m_act) rfl (Nat.le_of_ble_eq_true rfl) ?_
    refine ex_st 2 (pc' := 2) (ls' := [(0, xr 143), (1, xi (↑n)), (2, xi 1), (3, xi x)]) (st' := [xi 0, xr 143]) rfl ?_
    refine ex_pfi rfl (by decide) (rfl : xSH[143]? = some _) (by decide) rfl (by decide) (fun h => by cases h) ?_
    rw [wM_beg]
    refine ex_st 2 (pc' := 7) (ls' := [(0, xr 143), (1, xi (↑n)), (2, xi 1), (3, xi x)]) (st' := [xi (↑n), xr 143]) rfl ?_
    refine ex_call (ct_m_isOfficial2 (c := I 143 0) (by constructor <;> omega) (by rw [wM_f (by omega), wC_f (by omega), aJ_f (by omega)]) (by omega)) (by decide) rfl ⟨rfl, rfl, rfl⟩ ⟨Nat.le_of_ble_eq_true rfl, rfl, rfl⟩ (Nat.le_of_ble_eq_true rfl) rfl ?_
    refine ex_beq rfl (fun h1 => ?_) (fun h1 => ?_)
    · exfalso; omega
    · refine ex_st 4 (pc' := 17) (ls' := [(0, xr 143), (1, xi (↑n)), (2, xi 1), (3, xi x)]) (st' := [xi 2, xi 0, xi 1, xr 143]) rfl ?_
      refine ex_call (ct_m_in (by first | omega | (constructor <;> omega) | assumption) (by first | omega | (constructor <;> omega) | assumption) (by first | omega | (constructor <;> omega) | assumption)) (by decide) rfl ⟨rfl, rfl, rfl⟩ ⟨Nat.le_of_ble_eq_true rfl, rfl, rfl⟩ (Nat.le_of_ble_eq_true rfl) rfl ?_
      refine ex_bne rfl (fun h2 => ?_) (fun h2 => ?_)
      · refine ex_st 1 (pc' := 26) (ls' := [(0, xr 143), (1, xi (↑n)), (2, xi 1), (3, xi x)]) (st' := [xi 1]) rfl ?_
        refine ex_st 1 (pc' := 38) (ls' := [(0, xr 143), (1, xi (↑n)), (2, xi 1), (3, xi x)]) (st' := []) rfl ?_
        refine ex_st 2 (pc' := 40) (ls' := [(0, xr 143), (1, xi (↑n)), (2, xi 1), (3, xi x)]) (st' := [xi 1, xi 1]) rfl ?_
        refine ex_st 1 (pc' := 43) (ls' := [(0, xr 143), (1, xi (↑n)), (2, xi 1), (3, xi x)]) (st' := []) rfl ?_
        refine ex_st 3 (pc' := 46) (ls' := [(0, xr 143), (1, xi (↑n)), (2, xi 1), (3, xi x)]) (st' := [xi x, xi (↑n), xr 143]) rfl ?_
        refine ex_inl (M' := xM_m_looksAct) (as := [xr 143, xi (↑n), xi x]) (rest := []) (D' := 28) rfl (Nat.le_of_ble_eq_true rfl) (by decide) rfl ⟨rfl, rfl, rfl⟩ ⟨Nat.le_of_ble_eq_true rfl, rfl, rfl⟩ (Nat.le_of_ble_eq_true rfl) rfl ?_
        refine ex_st 3 (pc' := 5) (ls' := [(0, xr 143), (1, xi (↑n)), (2, xi x)]) (st' := [xi (↑n), xr 144]) rfl ?_
        refine ex_iald (j := n) rfl (by decide) (rfl : xSH[144]? = some _) (by omega) (by omega) (by decide) ?_
        rw [wM_f (by omega), wC_f (by omega), aJ_f (by omega), hq]
        refine ex_st 1 (pc' := 84) (ls' := [(0, xr 143), (1, xi (↑n)), (2, xi x)]) (st' := []) rfl ?_
        refine ex_st 3 (pc' := 87) (ls' := [(0, xr 143), (1, xi (↑n)), (2, xi x)]) (st' := [xi x, xi (↑n), xr 143]) rfl ?_
        refine ex_inl (M' := xM_m_officialLooks) (as := [xr 143, xi (↑n), xi x]) (rest := []) (D' := 27) rfl (Nat.le_of_ble_eq_true rfl) (by decide) rfl ⟨rfl, rfl, rfl⟩ ⟨Nat.le_of_ble_eq_true rfl, rfl, rfl⟩ (Nat.le_of_ble_eq_true rfl) rfl ?_
        refine ex_st 2 (pc' := 3) (ls' := [(0, xr 143), (1, xi (↑n)), (2, xi x)]) (st' := [xi 11, xr 143]) rfl ?_
        refine ex_call (ct_m_body (b := 11) (by decide)) (by decide) rfl ⟨rfl, rfl, rfl⟩ ⟨Nat.le_of_ble_eq_true rfl, rfl, rfl⟩ (Nat.le_of_ble_eq_true rfl) rfl ?_
        refine ex_st 3 (pc' := 9) (ls' := [(0, xr 143), (1, xi (↑n)), (2, xi x)]) (st' := [xi x, xi (↑n), xr 143]) rfl ?_
        refine ex_inl (M' := xM_m_clucksAct) (as := [xr 143, xi (↑n), xi x]) (rest := []) (D' := 26) rfl (Nat.le_of_ble_eq_true rfl) (by decide) rfl ⟨rfl, rfl, rfl⟩ ⟨Nat.le_of_ble_eq_true rfl, rfl, rfl⟩ (Nat.le_of_ble_eq_true rfl) rfl ?_
        refine ex_st 3 (pc' := 5) (ls' := [(0, xr 143), (1, xi (↑n)), (2, xi x)]) (st' := [xi (↑n), xr 144]) rfl ?_
        refine ex_iald (j := n) rfl (by decide) (rfl : xSH[144]? = some _) (by omega) (by omega) (by decide) ?_
        rw [wM_f (by omega), wC_f (by omega), aJ_f (by omega), hq]
        refine ex_st 1 (pc' := 89) (ls' := [(0, xr 143), (1, xi (↑n)), (2, xi x)]) (st' := []) rfl ?_
        refine ex_st 3 (pc' := 92) (ls' := [(0, xr 143), (1, xi (↑n)), (2, xi x)]) (st' := [xi x, xi (↑n), xr 143]) rfl ?_
        refine ex_inl (M' := xM_m_officialClucks) (as := [xr 143, xi (↑n), xi x]) (rest := []) (D' := 25) rfl (Nat.le_of_ble_eq_true rfl) (by decide) rfl ⟨rfl, rfl, rfl⟩ ⟨Nat.le_of_ble_eq_true rfl, rfl, rfl⟩ (Nat.le_of_ble_eq_true rfl) rfl ?_
        refine ex_st 2 (pc' := 3) (ls' := [(0, xr 143), (1, xi (↑n)), (2, xi x)]) (st' := [xi 10, xr 143]) rfl ?_
        refine ex_call (ct_m_body (b := 10) (by decide)) (by decide) rfl ⟨rfl, rfl, rfl⟩ ⟨Nat.le_of_ble_eq_true rfl, rfl, rfl⟩ (Nat.le_of_ble_eq_true rfl) rfl ?_
        refine ex_st 3 (pc' := 9) (ls' := [(0, xr 143), (1, xi (↑n)), (2, xi x)]) (st' := [xi (x + (↑n))]) rfl ?_
        refine ex_reti rfl rfl ?_
        refine ex_reti rfl rfl ?_
        refine ex_st 3 (pc' := 17) (ls' := [(0, xr 143), (1, xi (↑n)), (2, xi x)]) (st' := [xi (↑n), xr 145, xi (x + (↑n))]) rfl ?_
        refine ex_iald (j := n) rfl (by decide) (rfl : xSH[145]? = some _) (by omega) (by omega) (by decide) ?_
        rw [wM_f (by omega), wC_f (by omega), aJ_f (by omega)]
        refine ex_st 1 (pc' := 19) (ls' := [(0, xr 143), (1, xi (↑n)), (2, xi x)]) (st' := [xi ((x + (↑n)) - (I 145 n))]) rfl ?_
        refine ex_reti rfl rfl ?_
        refine ex_reti rfl rfl ?_
        refine ex_st 1 (pc' := 58) (ls' := [(0, xr 143), (1, xi (↑n)), (2, xi 1), (3, xi x)]) (st' := [xi ((x + (↑n)) - (I 145 n))]) rfl ?_
        refine ex_reti rfl rfl ?_
        exact ⟨x_req (by first | rfl | omega | (congr 1; omega)), _, _, rfl, Rl.act hR (by decide)⟩
      · exfalso; omega
set_option maxRecDepth 8000 in
set_option maxHeartbeats 4000000 in
theorem op_act_3_2 {sc : List Int} {I : Nat → Nat → Int} {L : Nat → Nat → Int64} (hR : Rl I L) {n : Nat} {x : Int} (hv : (n : Int) < I 1 1) (hq : I 144 n = 3) : x_PQ sc xN_G_act [xr 0, xi (↑n), xi 2, xi x] xN_m_act [xr 143, xi (↑n), xi 2, xi x] (xSH, I, L) := by
  obtain ⟨⟨hNs, hNo, hNa, hNb, hNr, hNd, hNg, hNe, hNp, hNk⟩, hI, hT, hX, hC, hH, hQ⟩ := id hR
  have hs := hNs
  unfold RNs at hs
  have ho := hNo n (by omega)
  have hq2 : I (11 + 3 * n) 0 = 3 := by omega
  refine x_CQ.of (M := xM_G_act) rfl (Nat.le_of_ble_eq_true rfl) ?_
  refine ex_st 2 (pc' := 2) (ls' := [(0, xr 0), (1, xi (↑n)), (2, xi 2), (3, xi x)]) (st' := [xi (↑n), xr 0]) rfl ?_
  refine ex_call (ct_G_isOfficial2 (c := I 1 1) (by first | omega | (constructor <;> omega) | assumption | ((repeat rw [x_up_far (by omega)]); first | rfl | omega | (constructor <;> omega))) (by (repeat rw [x_up_far (by omega)]); try rfl) (by first | omega | (constructor <;> omega) | assumption | ((repeat rw [x_up_far (by omega)]); first | rfl | omega | (constructor <;> omega)))) (by decide) rfl ⟨rfl, rfl, rfl⟩ ⟨Nat.le_of_ble_eq_true rfl, rfl, rfl⟩ (Nat.le_of_ble_eq_true rfl) rfl ?_
  refine ex_beq rfl (fun h0 => ?_) (fun h0 => ?_)
  · exfalso; omega
  · refine ex_st 1 (pc' := 9) (ls' := [(0, xr 0), (1, xi (↑n)), (2, xi 2), (3, xi x)]) (st' := [xi 2]) rfl ?_
    refine ex_st 1 (pc' := 12) (ls' := [(0, xr 0), (1, xi (↑n)), (2, xi 2), (3, xi x)]) (st' := []) rfl ?_
    refine ex_st 2 (pc' := 14) (ls' := [(0, xr 0), (1, xi (↑n)), (2, xi 2), (3, xi x)]) (st' := [xi 2, xi 2]) rfl ?_
    refine ex_st 1 (pc' := 27) (ls' := [(0, xr 0), (1, xi (↑n)), (2, xi 2), (3, xi x)]) (st' := []) rfl ?_
    refine ex_st 4 (pc' := 35) (ls' := [(0, xr 0), (1, xi (↑n)), (2, xi 2), (3, xi x)]) (st' := [xi (↑n), xr 2]) rfl ?_
    refine ex_aald (q := 11 + 3 * n) (j := n) rfl (by decide) (rfl : xSH[2]? = some _) (by decide) (by omega) (by omega) (by decide) (x_aa2 n (by omega)) (by omega) ?_
    refine ex_st 7 (pc' := 47) (ls' := [(4, xr (11 + 3 * n)), (0, xr 0), (1, xi (↑n)), (2, xi 2), (3, xi x)]) (st' := [xi x, xr (11 + 3 * n), xi (↑n), xi 2, xr 104]) rfl ?_
    refine ex_call (ct_A_begin_3_2 (L := L) (n := n) (x := x) (v := I 145 n) (by omega) hq2 ho.2.2.2.1) (by decide) rfl ⟨rfl, rfl, rfl⟩ ⟨Nat.le_of_ble_eq_true rfl, rfl, rfl⟩ (Nat.le_of_ble_eq_true rfl) rfl ?_
    refine ex_reti rfl rfl ?_
    refine x_CQ.of (M := xM_m_act) rfl (Nat.le_of_ble_eq_true rfl) ?_
    refine ex_st 2 (pc' := 2) (ls' := [(0, xr 143), (1, xi (↑n)), (2, xi 2), (3, xi x)]) (st' := [xi 0, xr 143]) rfl ?_
    refine ex_pfi rfl (by decide) (rfl : xSH[143]? = some _) (by decide) rfl (by decide) (fun h => by cases h) ?_
    rw [wM_beg]
    refine ex_st 2 (pc' := 7) (ls' := [(0, xr 143), (1, xi (↑n)), (2, xi 2), (3, xi x)]) (st' := [xi (↑n), xr 143]) rfl ?_
    refine ex_call (ct_m_isOfficial2 (c := I 143 0) (by constructor <;> omega) (by rw [wM_f (by omega), wC_f (by omega), aJ_f (by omega)]) (by omega)) (by decide) rfl ⟨rfl, rfl, rfl⟩ ⟨Nat.le_of_ble_eq_true rfl, rfl, rfl⟩ (Nat.le_of_ble_eq_true rfl) rfl ?_
    refine ex_beq rfl (fun h1 => ?_) (fun h1 => ?_)
    · exfalso; omega
    · refine ex_st 4 (pc' := 17) (ls' := [(0, xr 143), (1, xi (↑n)), (2, xi 2), (3, xi x)]) (st' := [xi 2, xi 0, xi 2, xr 143]) rfl ?_
      refine ex_call (ct_m_in (by first | omega | (constructor <;> omega) | assumption) (by first | omega | (constructor <;> omega) | assumption) (by first | omega | (constructor <;> omega) | assumption)) (by decide) rfl ⟨rfl, rfl, rfl⟩ ⟨Nat.le_of_ble_eq_true rfl, rfl, rfl⟩ (Nat.le_of_ble_eq_true rfl) rfl ?_
      refine ex_bne rfl (fun h2 => ?_) (fun h2 => ?_)
      · refine ex_st 1 (pc' := 26) (ls' := [(0, xr 143), (1, xi (↑n)), (2, xi 2), (3, xi x)]) (st' := [xi 2]) rfl ?_
        refine ex_st 1 (pc' := 38) (ls' := [(0, xr 143), (1, xi (↑n)), (2, xi 2), (3, xi x)]) (st' := []) rfl ?_
        refine ex_st 2 (pc' := 40) (ls' := [(0, xr 143), (1, xi (↑n)), (2, xi 2), (3, xi x)]) (st' := [xi 1, xi 2]) rfl ?_
        refine ex_st 1 (pc' := 52) (ls' := [(0, xr 143), (1, xi (↑n)), (2, xi 2), (3, xi x)]) (st' := []) rfl ?_
        refine ex_st 3 (pc' := 55) (ls' := [(0, xr 143), (1, xi (↑n)), (2, xi 2), (3, xi x)]) (st' := [xi x, xi (↑n), xr 143]) rfl ?_
        refine ex_inl (M' := xM_m_tellsAct) (as := [xr 143, xi (↑n), xi x]) (rest := []) (D' := 28) rfl (Nat.le_of_ble_eq_true rfl) (by decide) rfl ⟨rfl, rfl, rfl⟩ ⟨Nat.le_of_ble_eq_true rfl, rfl, rfl⟩ (Nat.le_of_ble_eq_true rfl) rfl ?_
        refine ex_st 3 (pc' := 5) (ls' := [(0, xr 143), (1, xi (↑n)), (2, xi x)]) (st' := [xi (↑n), xr 144]) rfl ?_
        refine ex_iald (j := n) rfl (by decide) (rfl : xSH[144]? = some _) (by omega) (by omega) (by decide) ?_
        rw [wM_f (by omega), wC_f (by omega), aJ_f (by omega), hq]
        refine ex_st 1 (pc' := 36) (ls' := [(0, xr 143), (1, xi (↑n)), (2, xi x)]) (st' := []) rfl ?_
        refine ex_st 2 (pc' := 39) (ls' := [(0, xr 143), (1, xi (↑n)), (2, xi x)]) (st' := [xi 40, xr 143]) rfl ?_
        refine ex_call (ct_m_body (b := 40) (by decide)) (by decide) rfl ⟨rfl, rfl, rfl⟩ ⟨Nat.le_of_ble_eq_true rfl, rfl, rfl⟩ (Nat.le_of_ble_eq_true rfl) rfl ?_
        refine ex_st 3 (pc' := 45) (ls' := [(0, xr 143), (1, xi (↑n)), (2, xi x)]) (st' := [xi x, xi (↑n), xr 143]) rfl ?_
        refine ex_inl (M' := xM_m_officialTells) (as := [xr 143, xi (↑n), xi x]) (rest := []) (D' := 27) rfl (Nat.le_of_ble_eq_true rfl) (by decide) rfl ⟨rfl, rfl, rfl⟩ ⟨Nat.le_of_ble_eq_true rfl, rfl, rfl⟩ (Nat.le_of_ble_eq_true rfl) rfl ?_
        refine ex_st 2 (pc' := 3) (ls' := [(0, xr 143), (1, xi (↑n)), (2, xi x)]) (st' := [xi 12, xr 143]) rfl ?_
        refine ex_call (ct_m_body (b := 12) (by decide)) (by decide) rfl ⟨rfl, rfl, rfl⟩ ⟨Nat.le_of_ble_eq_true rfl, rfl, rfl⟩ (Nat.le_of_ble_eq_true rfl) rfl ?_
        refine ex_st 3 (pc' := 9) (ls' := [(0, xr 143), (1, xi (↑n)), (2, xi x)]) (st' := [xi x, xi (↑n), xr 143]) rfl ?_
        refine ex_inl (M' := xM_m_looksAct) (as := [xr 143, xi (↑n), xi x]) (rest := []) (D' := 26) rfl (Nat.le_of_ble_eq_true rfl) (by decide) rfl ⟨rfl, rfl, rfl⟩ ⟨Nat.le_of_ble_eq_true rfl, rfl, rfl⟩ (Nat.le_of_ble_eq_true rfl) rfl ?_
        refine ex_st 3 (pc' := 5) (ls' := [(0, xr 143), (1, xi (↑n)), (2, xi x)]) (st' := [xi (↑n), xr 144]) rfl ?_
        refine ex_iald (j := n) rfl (by decide) (rfl : xSH[144]? = some _) (by omega) (by omega) (by decide) ?_
        rw [wM_f (by omega), wC_f (by omega), aJ_f (by omega), hq]
        refine ex_st 1 (pc' := 84) (ls' := [(0, xr 143), (1, xi (↑n)), (2, xi x)]) (st' := []) rfl ?_
        refine ex_st 3 (pc' := 87) (ls' := [(0, xr 143), (1, xi (↑n)), (2, xi x)]) (st' := [xi x, xi (↑n), xr 143]) rfl ?_
        refine ex_inl (M' := xM_m_officialLooks) (as := [xr 143, xi (↑n), xi x]) (rest := []) (D' := 25) rfl (Nat.le_of_ble_eq_true rfl) (by decide) rfl ⟨rfl, rfl, rfl⟩ ⟨Nat.le_of_ble_eq_true rfl, rfl, rfl⟩ (Nat.le_of_ble_eq_true rfl) rfl ?_
        refine ex_st 2 (pc' := 3) (ls' := [(0, xr 143), (1, xi (↑n)), (2, xi x)]) (st' := [xi 11, xr 143]) rfl ?_
        refine ex_call (ct_m_body (b := 11) (by decide)) (by decide) rfl ⟨rfl, rfl, rfl⟩ ⟨Nat.le_of_ble_eq_true rfl, rfl, rfl⟩ (Nat.le_of_ble_eq_true rfl) rfl ?_
        refine ex_st 3 (pc' := 9) (ls' := [(0, xr 143), (1, xi (↑n)), (2, xi x)]) (st' := [xi x, xi (↑n), xr 143]) rfl ?_
        refine ex_inl (M' := xM_m_clucksAct) (as := [xr 143, xi (↑n), xi x]) (rest := []) (D' := 24) rfl (Nat.le_of_ble_eq_true rfl) (by decide) rfl ⟨rfl, rfl, rfl⟩ ⟨Nat.le_of_ble_eq_true rfl, rfl, rfl⟩ (Nat.le_of_ble_eq_true rfl) rfl ?_
        refine ex_st 3 (pc' := 5) (ls' := [(0, xr 143), (1, xi (↑n)), (2, xi x)]) (st' := [xi (↑n), xr 144]) rfl ?_
        refine ex_iald (j := n) rfl (by decide) (rfl : xSH[144]? = some _) (by omega) (by omega) (by decide) ?_
        rw [wM_f (by omega), wC_f (by omega), aJ_f (by omega), hq]
        refine ex_st 1 (pc' := 89) (ls' := [(0, xr 143), (1, xi (↑n)), (2, xi x)]) (st' := []) rfl ?_
        refine ex_st 3 (pc' := 92) (ls' := [(0, xr 143), (1, xi (↑n)), (2, xi x)]) (st' := [xi x, xi (↑n), xr 143]) rfl ?_
        refine ex_inl (M' := xM_m_officialClucks) (as := [xr 143, xi (↑n), xi x]) (rest := []) (D' := 23) rfl (Nat.le_of_ble_eq_true rfl) (by decide) rfl ⟨rfl, rfl, rfl⟩ ⟨Nat.le_of_ble_eq_true rfl, rfl, rfl⟩ (Nat.le_of_ble_eq_true rfl) rfl ?_
        refine ex_st 2 (pc' := 3) (ls' := [(0, xr 143), (1, xi (↑n)), (2, xi x)]) (st' := [xi 10, xr 143]) rfl ?_
        refine ex_call (ct_m_body (b := 10) (by decide)) (by decide) rfl ⟨rfl, rfl, rfl⟩ ⟨Nat.le_of_ble_eq_true rfl, rfl, rfl⟩ (Nat.le_of_ble_eq_true rfl) rfl ?_
        refine ex_st 3 (pc' := 9) (ls' := [(0, xr 143), (1, xi (↑n)), (2, xi x)]) (st' := [xi (x + (↑n))]) rfl ?_
        refine ex_reti rfl rfl ?_
        refine ex_reti rfl rfl ?_
        refine ex_st 3 (pc' := 17) (ls' := [(0, xr 143), (1, xi (↑n)), (2, xi x)]) (st' := [xi (↑n), xr 145, xi (x + (↑n))]) rfl ?_
        refine ex_iald (j := n) rfl (by decide) (rfl : xSH[145]? = some _) (by omega) (by omega) (by decide) ?_
        rw [wM_f (by omega), wC_f (by omega), aJ_f (by omega)]
        refine ex_st 1 (pc' := 19) (ls' := [(0, xr 143), (1, xi (↑n)), (2, xi x)]) (st' := [xi ((x + (↑n)) - (I 145 n))]) rfl ?_
        refine ex_reti rfl rfl ?_
        refine ex_reti rfl rfl ?_
        refine ex_st 2 (pc' := 14) (ls' := [(0, xr 143), (1, xi (↑n)), (2, xi x)]) (st' := [xi (((x + (↑n)) - (I 145 n)) * 2)]) rfl ?_
        refine ex_reti rfl rfl ?_
        refine ex_st 5 (pc' := 53) (ls' := [(3, xi (((x + (↑n)) - (I 145 n)) * 2)), (0, xr 143), (1, xi (↑n)), (2, xi x)]) (st' := [xi 1, xi (↑n), xr 143, xi (((x + (↑n)) - (I 145 n)) * 2)]) rfl ?_
        refine ex_inl (M' := xM_m_looksAct) (as := [xr 143, xi (↑n), xi 1]) (rest := [xi (((x + (↑n)) - (I 145 n)) * 2)]) (D' := 27) rfl (Nat.le_of_ble_eq_true rfl) (by decide) rfl ⟨rfl, rfl, rfl⟩ ⟨Nat.le_of_ble_eq_true rfl, rfl, rfl⟩ (Nat.le_of_ble_eq_true rfl) rfl ?_
        refine ex_st 3 (pc' := 5) (ls' := [(0, xr 143), (1, xi (↑n)), (2, xi 1)]) (st' := [xi (↑n), xr 144]) rfl ?_
        refine ex_iald (j := n) rfl (by decide) (rfl : xSH[144]? = some _) (by omega) (by omega) (by decide) ?_
        rw [wM_f (by omega), wC_f (by omega), aJ_f (by omega), hq]
        refine ex_st 1 (pc' := 84) (ls' := [(0, xr 143), (1, xi (↑n)), (2, xi 1)]) (st' := []) rfl ?_
        refine ex_st 3 (pc' := 87) (ls' := [(0, xr 143), (1, xi (↑n)), (2, xi 1)]) (st' := [xi 1, xi (↑n), xr 143]) rfl ?_
        refine ex_inl (M' := xM_m_officialLooks) (as := [xr 143, xi (↑n), xi 1]) (rest := []) (D' := 26) rfl (Nat.le_of_ble_eq_true rfl) (by decide) rfl ⟨rfl, rfl, rfl⟩ ⟨Nat.le_of_ble_eq_true rfl, rfl, rfl⟩ (Nat.le_of_ble_eq_true rfl) rfl ?_
        refine ex_st 2 (pc' := 3) (ls' := [(0, xr 143), (1, xi (↑n)), (2, xi 1)]) (st' := [xi 11, xr 143]) rfl ?_
        refine ex_call (ct_m_body (b := 11) (by decide)) (by decide) rfl ⟨rfl, rfl, rfl⟩ ⟨Nat.le_of_ble_eq_true rfl, rfl, rfl⟩ (Nat.le_of_ble_eq_true rfl) rfl ?_
        refine ex_st 3 (pc' := 9) (ls' := [(0, xr 143), (1, xi (↑n)), (2, xi 1)]) (st' := [xi 1, xi (↑n), xr 143]) rfl ?_
        refine ex_inl (M' := xM_m_clucksAct) (as := [xr 143, xi (↑n), xi 1]) (rest := []) (D' := 25) rfl (Nat.le_of_ble_eq_true rfl) (by decide) rfl ⟨rfl, rfl, rfl⟩ ⟨Nat.le_of_ble_eq_true rfl, rfl, rfl⟩ (Nat.le_of_ble_eq_true rfl) rfl ?_
        refine ex_st 3 (pc' := 5) (ls' := [(0, xr 143), (1, xi (↑n)), (2, xi 1)]) (st' := [xi (↑n), xr 144]) rfl ?_
        refine ex_iald (j := n) rfl (by decide) (rfl : xSH[144]? = some _) (by omega) (by omega) (by decide) ?_
        rw [wM_f (by omega), wC_f (by omega), aJ_f (by omega), hq]
        refine ex_st 1 (pc' := 89) (ls' := [(0, xr 143), (1, xi (↑n)), (2, xi 1)]) (st' := []) rfl ?_
        refine ex_st 3 (pc' := 92) (ls' := [(0, xr 143), (1, xi (↑n)), (2, xi 1)]) (st' := [xi 1, xi (↑n), xr 143]) rfl ?_
        refine ex_inl (M' := xM_m_officialClucks) (as := [xr 143, xi (↑n), xi 1]) (rest := []) (D' := 24) rfl (Nat.le_of_ble_eq_true rfl) (by decide) rfl ⟨rfl, rfl, rfl⟩ ⟨Nat.le_of_ble_eq_true rfl, rfl, rfl⟩ (Nat.le_of_ble_eq_true rfl) rfl ?_
        refine ex_st 2 (pc' := 3) (ls' := [(0, xr 143), (1, xi (↑n)), (2, xi 1)]) (st' := [xi 10, xr 143]) rfl ?_
        refine ex_call (ct_m_body (b := 10) (by decide)) (by decide) rfl ⟨rfl, rfl, rfl⟩ ⟨Nat.le_of_ble_eq_true rfl, rfl, rfl⟩ (Nat.le_of_ble_eq_true rfl) rfl ?_
        refine ex_st 3 (pc' := 9) (ls' := [(0, xr 143), (1, xi (↑n)), (2, xi 1)]) (st' := [xi (1 + (↑n))]) rfl ?_
        refine ex_reti rfl rfl ?_
        refine ex_reti rfl rfl ?_
        refine ex_st 3 (pc' := 17) (ls' := [(0, xr 143), (1, xi (↑n)), (2, xi 1)]) (st' := [xi (↑n), xr 145, xi (1 + (↑n))]) rfl ?_
        refine ex_iald (j := n) rfl (by decide) (rfl : xSH[145]? = some _) (by omega) (by omega) (by decide) ?_
        rw [wM_f (by omega), wC_f (by omega), aJ_f (by omega)]
        refine ex_st 1 (pc' := 19) (ls' := [(0, xr 143), (1, xi (↑n)), (2, xi 1)]) (st' := [xi ((1 + (↑n)) - (I 145 n))]) rfl ?_
        refine ex_reti rfl rfl ?_
        refine ex_reti rfl rfl ?_
        refine ex_st 1 (pc' := 57) (ls' := [(3, xi (((x + (↑n)) - (I 145 n)) * 2)), (0, xr 143), (1, xi (↑n)), (2, xi x)]) (st' := [xi ((((x + (↑n)) - (I 145 n)) * 2) + ((1 + (↑n)) - (I 145 n)))]) rfl ?_
        refine ex_reti rfl rfl ?_
        refine ex_reti rfl rfl ?_
        exact ⟨x_req (by first | rfl | omega | (congr 1; omega)), _, _, rfl, Rl.act hR (by decide)⟩
      · exfalso; omega
set_option maxRecDepth 8000 in
set_option maxHeartbeats 4000000 in
theorem op_act_4_0 {sc : List Int} {I : Nat → Nat → Int} {L : Nat → Nat → Int64} (hR : Rl I L) {n : Nat} {x : Int} (hv : (n : Int) < I 1 1) (hq : I 144 n = 4) : x_PQ sc xN_G_act [xr 0, xi (↑n), xi 0, xi x] xN_m_act [xr 143, xi (↑n), xi 0, xi x] (xSH, I, L) := by
  obtain ⟨⟨hNs, hNo, hNa, hNb, hNr, hNd, hNg, hNe, hNp, hNk⟩, hI, hT, hX, hC, hH, hQ⟩ := id hR
  have hs := hNs
  unfold RNs at hs
  have ho := hNo n (by omega)
  have hq2 : I (11 + 3 * n) 0 = 4 := by omega
  refine x_CQ.of (M := xM_G_act) rfl (Nat.le_of_ble_eq_true rfl) ?_
  refine ex_st 2 (pc' := 2) (ls' := [(0, xr 0), (1, xi (↑n)), (2, xi 0), (3, xi x)]) (st' := [xi (↑n), xr 0]) rfl ?_
  refine ex_call (ct_G_isOfficial2 (c := I 1 1) (by first | omega | (constructor <;> omega) | assumption | ((repeat rw [x_up_far (by omega)]); first | rfl | omega | (constructor <;> omega))) (by (repeat rw [x_up_far (by omega)]); try rfl) (by first | omega | (constructor <;> omega) | assumption | ((repeat rw [x_up_far (by omega)]); first | rfl | omega | (constructor <;> omega)))) (by decide) rfl ⟨rfl, rfl, rfl⟩ ⟨Nat.le_of_ble_eq_true rfl, rfl, rfl⟩ (Nat.le_of_ble_eq_true rfl) rfl ?_
  refine ex_beq rfl (fun h0 => ?_) (fun h0 => ?_)
  · exfalso; omega
  · refine ex_st 1 (pc' := 9) (ls' := [(0, xr 0), (1, xi (↑n)), (2, xi 0), (3, xi x)]) (st' := [xi 0]) rfl ?_
    refine ex_st 1 (pc' := 12) (ls' := [(0, xr 0), (1, xi (↑n)), (2, xi 0), (3, xi x)]) (st' := []) rfl ?_
    refine ex_st 2 (pc' := 14) (ls' := [(0, xr 0), (1, xi (↑n)), (2, xi 0), (3, xi x)]) (st' := [xi 2, xi 0]) rfl ?_
    refine ex_st 1 (pc' := 27) (ls' := [(0, xr 0), (1, xi (↑n)), (2, xi 0), (3, xi x)]) (st' := []) rfl ?_
    refine ex_st 4 (pc' := 35) (ls' := [(0, xr 0), (1, xi (↑n)), (2, xi 0), (3, xi x)]) (st' := [xi (↑n), xr 2]) rfl ?_
    refine ex_aald (q := 11 + 3 * n) (j := n) rfl (by decide) (rfl : xSH[2]? = some _) (by decide) (by omega) (by omega) (by decide) (x_aa2 n (by omega)) (by omega) ?_
    refine ex_st 7 (pc' := 47) (ls' := [(4, xr (11 + 3 * n)), (0, xr 0), (1, xi (↑n)), (2, xi 0), (3, xi x)]) (st' := [xi x, xr (11 + 3 * n), xi (↑n), xi 0, xr 104]) rfl ?_
    refine ex_call (ct_A_begin_4_0 (L := L) (n := n) (x := x) (v := I 145 n) (by omega) hq2 ho.2.2.2.1) (by decide) rfl ⟨rfl, rfl, rfl⟩ ⟨Nat.le_of_ble_eq_true rfl, rfl, rfl⟩ (Nat.le_of_ble_eq_true rfl) rfl ?_
    refine ex_reti rfl rfl ?_
    refine x_CQ.of (M := xM_m_act) rfl (Nat.le_of_ble_eq_true rfl) ?_
    refine ex_st 2 (pc' := 2) (ls' := [(0, xr 143), (1, xi (↑n)), (2, xi 0), (3, xi x)]) (st' := [xi 0, xr 143]) rfl ?_
    refine ex_pfi rfl (by decide) (rfl : xSH[143]? = some _) (by decide) rfl (by decide) (fun h => by cases h) ?_
    rw [wM_beg]
    refine ex_st 2 (pc' := 7) (ls' := [(0, xr 143), (1, xi (↑n)), (2, xi 0), (3, xi x)]) (st' := [xi (↑n), xr 143]) rfl ?_
    refine ex_call (ct_m_isOfficial2 (c := I 143 0) (by constructor <;> omega) (by rw [wM_f (by omega), wC_f (by omega), aJ_f (by omega)]) (by omega)) (by decide) rfl ⟨rfl, rfl, rfl⟩ ⟨Nat.le_of_ble_eq_true rfl, rfl, rfl⟩ (Nat.le_of_ble_eq_true rfl) rfl ?_
    refine ex_beq rfl (fun h1 => ?_) (fun h1 => ?_)
    · exfalso; omega
    · refine ex_st 4 (pc' := 17) (ls' := [(0, xr 143), (1, xi (↑n)), (2, xi 0), (3, xi x)]) (st' := [xi 2, xi 0, xi 0, xr 143]) rfl ?_
      refine ex_call (ct_m_in (by first | omega | (constructor <;> omega) | assumption) (by first | omega | (constructor <;> omega) | assumption) (by first | omega | (constructor <;> omega) | assumption)) (by decide) rfl ⟨rfl, rfl, rfl⟩ ⟨Nat.le_of_ble_eq_true rfl, rfl, rfl⟩ (Nat.le_of_ble_eq_true rfl) rfl ?_
      refine ex_bne rfl (fun h2 => ?_) (fun h2 => ?_)
      · refine ex_st 1 (pc' := 26) (ls' := [(0, xr 143), (1, xi (↑n)), (2, xi 0), (3, xi x)]) (st' := [xi 0]) rfl ?_
        refine ex_st 1 (pc' := 29) (ls' := [(0, xr 143), (1, xi (↑n)), (2, xi 0), (3, xi x)]) (st' := []) rfl ?_
        refine ex_st 3 (pc' := 32) (ls' := [(0, xr 143), (1, xi (↑n)), (2, xi 0), (3, xi x)]) (st' := [xi x, xi (↑n), xr 143]) rfl ?_
        refine ex_inl (M' := xM_m_clucksAct) (as := [xr 143, xi (↑n), xi x]) (rest := []) (D' := 28) rfl (Nat.le_of_ble_eq_true rfl) (by decide) rfl ⟨rfl, rfl, rfl⟩ ⟨Nat.le_of_ble_eq_true rfl, rfl, rfl⟩ (Nat.le_of_ble_eq_true rfl) rfl ?_
        refine ex_st 3 (pc' := 5) (ls' := [(0, xr 143), (1, xi (↑n)), (2, xi x)]) (st' := [xi (↑n), xr 144]) rfl ?_
        refine ex_iald (j := n) rfl (by decide) (rfl : xSH[144]? = some _) (by omega) (by omega) (by decide) ?_
        rw [wM_f (by omega), wC_f (by omega), aJ_f (by omega), hq]
        refine ex_st 1 (pc' := 55) (ls' := [(0, xr 143), (1, xi (↑n)), (2, xi x)]) (st' := []) rfl ?_
        refine ex_st 2 (pc' := 58) (ls' := [(0, xr 143), (1, xi (↑n)), (2, xi x)]) (st' := [xi 50, xr 143]) rfl ?_
        refine ex_call (ct_m_body (b := 50) (by decide)) (by decide) rfl ⟨rfl, rfl, rfl⟩ ⟨Nat.le_of_ble_eq_true rfl, rfl, rfl⟩ (Nat.le_of_ble_eq_true rfl) rfl ?_
        refine ex_st 3 (pc' := 64) (ls' := [(0, xr 143), (1, xi (↑n)), (2, xi x)]) (st' := [xi x, xi (↑n), xr 143]) rfl ?_
        refine ex_inl (M' := xM_m_officialClucks) (as := [xr 143, xi (↑n), xi x]) (rest := []) (D' := 27) rfl (Nat.le_of_ble_eq_true rfl) (by decide) rfl ⟨rfl, rfl, rfl⟩ ⟨Nat.le_of_ble_eq_true rfl, rfl, rfl⟩ (Nat.le_of_ble_eq_true rfl) rfl ?_
        refine ex_st 2 (pc' := 3) (ls' := [(0, xr 143), (1, xi (↑n)), (2, xi x)]) (st' := [xi 10, xr 143]) rfl ?_
        refine ex_call (ct_m_body (b := 10) (by decide)) (by decide) rfl ⟨rfl, rfl, rfl⟩ ⟨Nat.le_of_ble_eq_true rfl, rfl, rfl⟩ (Nat.le_of_ble_eq_true rfl) rfl ?_
        refine ex_st 3 (pc' := 9) (ls' := [(0, xr 143), (1, xi (↑n)), (2, xi x)]) (st' := [xi (x + (↑n))]) rfl ?_
        refine ex_reti rfl rfl ?_
        refine ex_st 1 (pc' := 68) (ls' := [(0, xr 143), (1, xi (↑n)), (2, xi x)]) (st' := [xi (-(x + (↑n)))]) rfl ?_
        refine ex_reti rfl rfl ?_
        refine ex_st 1 (pc' := 58) (ls' := [(0, xr 143), (1, xi (↑n)), (2, xi 0), (3, xi x)]) (st' := [xi (-(x + (↑n)))]) rfl ?_
        refine ex_reti rfl rfl ?_
        exact ⟨x_req (by first | rfl | omega | (congr 1; omega)), _, _, rfl, Rl.act hR (by decide)⟩
      · exfalso; omega
set_option maxRecDepth 8000 in
set_option maxHeartbeats 4000000 in
theorem op_act_4_1 {sc : List Int} {I : Nat → Nat → Int} {L : Nat → Nat → Int64} (hR : Rl I L) {n : Nat} {x : Int} (hv : (n : Int) < I 1 1) (hq : I 144 n = 4) : x_PQ sc xN_G_act [xr 0, xi (↑n), xi 1, xi x] xN_m_act [xr 143, xi (↑n), xi 1, xi x] (xSH, I, L) := by
  obtain ⟨⟨hNs, hNo, hNa, hNb, hNr, hNd, hNg, hNe, hNp, hNk⟩, hI, hT, hX, hC, hH, hQ⟩ := id hR
  have hs := hNs
  unfold RNs at hs
  have ho := hNo n (by omega)
  have hq2 : I (11 + 3 * n) 0 = 4 := by omega
  refine x_CQ.of (M := xM_G_act) rfl (Nat.le_of_ble_eq_true rfl) ?_
  refine ex_st 2 (pc' := 2) (ls' := [(0, xr 0), (1, xi (↑n)), (2, xi 1), (3, xi x)]) (st' := [xi (↑n), xr 0]) rfl ?_
  refine ex_call (ct_G_isOfficial2 (c := I 1 1) (by first | omega | (constructor <;> omega) | assumption | ((repeat rw [x_up_far (by omega)]); first | rfl | omega | (constructor <;> omega))) (by (repeat rw [x_up_far (by omega)]); try rfl) (by first | omega | (constructor <;> omega) | assumption | ((repeat rw [x_up_far (by omega)]); first | rfl | omega | (constructor <;> omega)))) (by decide) rfl ⟨rfl, rfl, rfl⟩ ⟨Nat.le_of_ble_eq_true rfl, rfl, rfl⟩ (Nat.le_of_ble_eq_true rfl) rfl ?_
  refine ex_beq rfl (fun h0 => ?_) (fun h0 => ?_)
  · exfalso; omega
  · refine ex_st 1 (pc' := 9) (ls' := [(0, xr 0), (1, xi (↑n)), (2, xi 1), (3, xi x)]) (st' := [xi 1]) rfl ?_
    refine ex_st 1 (pc' := 12) (ls' := [(0, xr 0), (1, xi (↑n)), (2, xi 1), (3, xi x)]) (st' := []) rfl ?_
    refine ex_st 2 (pc' := 14) (ls' := [(0, xr 0), (1, xi (↑n)), (2, xi 1), (3, xi x)]) (st' := [xi 2, xi 1]) rfl ?_
    refine ex_st 1 (pc' := 27) (ls' := [(0, xr 0), (1, xi (↑n)), (2, xi 1), (3, xi x)]) (st' := []) rfl ?_
    refine ex_st 4 (pc' := 35) (ls' := [(0, xr 0), (1, xi (↑n)), (2, xi 1), (3, xi x)]) (st' := [xi (↑n), xr 2]) rfl ?_
    refine ex_aald (q := 11 + 3 * n) (j := n) rfl (by decide) (rfl : xSH[2]? = some _) (by decide) (by omega) (by omega) (by decide) (x_aa2 n (by omega)) (by omega) ?_
    refine ex_st 7 (pc' := 47) (ls' := [(4, xr (11 + 3 * n)), (0, xr 0), (1, xi (↑n)), (2, xi 1), (3, xi x)]) (st' := [xi x, xr (11 + 3 * n), xi (↑n), xi 1, xr 104]) rfl ?_
    refine ex_call (ct_A_begin_4_1 (L := L) (n := n) (x := x) (v := I 145 n) (by omega) hq2 ho.2.2.2.1) (by decide) rfl ⟨rfl, rfl, rfl⟩ ⟨Nat.le_of_ble_eq_true rfl, rfl, rfl⟩ (Nat.le_of_ble_eq_true rfl) rfl ?_
    refine ex_reti rfl rfl ?_
    refine x_CQ.of (M := xM_m_act) rfl (Nat.le_of_ble_eq_true rfl) ?_
    refine ex_st 2 (pc' := 2) (ls' := [(0, xr 143), (1, xi (↑n)), (2, xi 1), (3, xi x)]) (st' := [xi 0, xr 143]) rfl ?_
    refine ex_pfi rfl (by decide) (rfl : xSH[143]? = some _) (by decide) rfl (by decide) (fun h => by cases h) ?_
    rw [wM_beg]
    refine ex_st 2 (pc' := 7) (ls' := [(0, xr 143), (1, xi (↑n)), (2, xi 1), (3, xi x)]) (st' := [xi (↑n), xr 143]) rfl ?_
    refine ex_call (ct_m_isOfficial2 (c := I 143 0) (by constructor <;> omega) (by rw [wM_f (by omega), wC_f (by omega), aJ_f (by omega)]) (by omega)) (by decide) rfl ⟨rfl, rfl, rfl⟩ ⟨Nat.le_of_ble_eq_true rfl, rfl, rfl⟩ (Nat.le_of_ble_eq_true rfl) rfl ?_
    refine ex_beq rfl (fun h1 => ?_) (fun h1 => ?_)
    · exfalso; omega
    · refine ex_st 4 (pc' := 17) (ls' := [(0, xr 143), (1, xi (↑n)), (2, xi 1), (3, xi x)]) (st' := [xi 2, xi 0, xi 1, xr 143]) rfl ?_
      refine ex_call (ct_m_in (by first | omega | (constructor <;> omega) | assumption) (by first | omega | (constructor <;> omega) | assumption) (by first | omega | (constructor <;> omega) | assumption)) (by decide) rfl ⟨rfl, rfl, rfl⟩ ⟨Nat.le_of_ble_eq_true rfl, rfl, rfl⟩ (Nat.le_of_ble_eq_true rfl) rfl ?_
      refine ex_bne rfl (fun h2 => ?_) (fun h2 => ?_)
      · refine ex_st 1 (pc' := 26) (ls' := [(0, xr 143), (1, xi (↑n)), (2, xi 1), (3, xi x)]) (st' := [xi 1]) rfl ?_
        refine ex_st 1 (pc' := 38) (ls' := [(0, xr 143), (1, xi (↑n)), (2, xi 1), (3, xi x)]) (st' := []) rfl ?_
        refine ex_st 2 (pc' := 40) (ls' := [(0, xr 143), (1, xi (↑n)), (2, xi 1), (3, xi x)]) (st' := [xi 1, xi 1]) rfl ?_
        refine ex_st 1 (pc' := 43) (ls' := [(0, xr 143), (1, xi (↑n)), (2, xi 1), (3, xi x)]) (st' := []) rfl ?_
        refine ex_st 3 (pc' := 46) (ls' := [(0, xr 143), (1, xi (↑n)), (2, xi 1), (3, xi x)]) (st' := [xi x, xi (↑n), xr 143]) rfl ?_
        refine ex_inl (M' := xM_m_looksAct) (as := [xr 143, xi (↑n), xi x]) (rest := []) (D' := 28) rfl (Nat.le_of_ble_eq_true rfl) (by decide) rfl ⟨rfl, rfl, rfl⟩ ⟨Nat.le_of_ble_eq_true rfl, rfl, rfl⟩ (Nat.le_of_ble_eq_true rfl) rfl ?_
        refine ex_st 3 (pc' := 5) (ls' := [(0, xr 143), (1, xi (↑n)), (2, xi x)]) (st' := [xi (↑n), xr 144]) rfl ?_
        refine ex_iald (j := n) rfl (by decide) (rfl : xSH[144]? = some _) (by omega) (by omega) (by decide) ?_
        rw [wM_f (by omega), wC_f (by omega), aJ_f (by omega), hq]
        refine ex_st 1 (pc' := 47) (ls' := [(0, xr 143), (1, xi (↑n)), (2, xi x)]) (st' := []) rfl ?_
        refine ex_st 2 (pc' := 50) (ls' := [(0, xr 143), (1, xi (↑n)), (2, xi x)]) (st' := [xi 51, xr 143]) rfl ?_
        refine ex_call (ct_m_body (b := 51) (by decide)) (by decide) rfl ⟨rfl, rfl, rfl⟩ ⟨Nat.le_of_ble_eq_true rfl, rfl, rfl⟩ (Nat.le_of_ble_eq_true rfl) rfl ?_
        refine ex_st 5 (pc' := 58) (ls' := [(0, xr 143), (1, xi (↑n)), (2, xi x)]) (st' := [xi (x + 1), xi (↑n), xr 143]) rfl ?_
        refine ex_inl (M' := xM_m_clerkLooks) (as := [xr 143, xi (↑n), xi (x + 1)]) (rest := []) (D' := 27) rfl (Nat.le_of_ble_eq_true rfl) (by decide) rfl ⟨rfl, rfl, rfl⟩ ⟨Nat.le_of_ble_eq_true rfl, rfl, rfl⟩ (Nat.le_of_ble_eq_true rfl) rfl ?_
        refine ex_st 2 (pc' := 3) (ls' := [(0, xr 143), (1, xi (↑n)), (2, xi (x + 1))]) (st' := [xi 20, xr 143]) rfl ?_
        refine ex_call (ct_m_body (b := 20) (by decide)) (by decide) rfl ⟨rfl, rfl, rfl⟩ ⟨Nat.le_of_ble_eq_true rfl, rfl, rfl⟩ (Nat.le_of_ble_eq_true rfl) rfl ?_
        refine ex_st 3 (pc' := 9) (ls' := [(0, xr 143), (1, xi (↑n)), (2, xi (x + 1))]) (st' := [xi (x + 1), xi (↑n), xr 143]) rfl ?_
        refine ex_inl (M' := xM_m_officialLooks) (as := [xr 143, xi (↑n), xi (x + 1)]) (rest := []) (D' := 26) rfl (Nat.le_of_ble_eq_true rfl) (by decide) rfl ⟨rfl, rfl, rfl⟩ ⟨Nat.le_of_ble_eq_true rfl, rfl, rfl⟩ (Nat.le_of_ble_eq_true rfl) rfl ?_
        refine ex_st 2 (pc' := 3) (ls' := [(0, xr 143), (1, xi (↑n)), (2, xi (x + 1))]) (st' := [xi 11, xr 143]) rfl ?_
        refine ex_call (ct_m_body (b := 11) (by decide)) (by decide) rfl ⟨rfl, rfl, rfl⟩ ⟨Nat.le_of_ble_eq_true rfl, rfl, rfl⟩ (Nat.le_of_ble_eq_true rfl) rfl ?_
        refine ex_st 3 (pc' := 9) (ls' := [(0, xr 143), (1, xi (↑n)), (2, xi (x + 1))]) (st' := [xi (x + 1), xi (↑n), xr 143]) rfl ?_
        refine ex_inl (M' := xM_m_clucksAct) (as := [xr 143, xi (↑n), xi (x + 1)]) (rest := []) (D' := 25) rfl (Nat.le_of_ble_eq_true rfl) (by decide) rfl ⟨rfl, rfl, rfl⟩ ⟨Nat.le_of_ble_eq_true rfl, rfl, rfl⟩ (Nat.le_of_ble_eq_true rfl) rfl ?_
        refine ex_st 3 (pc' := 5) (ls' := [(0, xr 143), (1, xi (↑n)), (2, xi (x + 1))]) (st' := [xi (↑n), xr 144]) rfl ?_
        refine ex_iald (j := n) rfl (by decide) (rfl : xSH[144]? = some _) (by omega) (by omega) (by decide) ?_
        rw [wM_f (by omega), wC_f (by omega), aJ_f (by omega), hq]
        refine ex_st 1 (pc' := 55) (ls' := [(0, xr 143), (1, xi (↑n)), (2, xi (x + 1))]) (st' := []) rfl ?_
        refine ex_st 2 (pc' := 58) (ls' := [(0, xr 143), (1, xi (↑n)), (2, xi (x + 1))]) (st' := [xi 50, xr 143]) rfl ?_
        refine ex_call (ct_m_body (b := 50) (by decide)) (by decide) rfl ⟨rfl, rfl, rfl⟩ ⟨Nat.le_of_ble_eq_true rfl, rfl, rfl⟩ (Nat.le_of_ble_eq_true rfl) rfl ?_
        refine ex_st 3 (pc' := 64) (ls' := [(0, xr 143), (1, xi (↑n)), (2, xi (x + 1))]) (st' := [xi (x + 1), xi (↑n), xr 143]) rfl ?_
        refine ex_inl (M' := xM_m_officialClucks) (as := [xr 143, xi (↑n), xi (x + 1)]) (rest := []) (D' := 24) rfl (Nat.le_of_ble_eq_true rfl) (by decide) rfl ⟨rfl, rfl, rfl⟩ ⟨Nat.le_of_ble_eq_true rfl, rfl, rfl⟩ (Nat.le_of_ble_eq_true rfl) rfl ?_
        refine ex_st 2 (pc' := 3) (ls' := [(0, xr 143), (1, xi (↑n)), (2, xi (x + 1))]) (st' := [xi 10, xr 143]) rfl ?_
        refine ex_call (ct_m_body (b := 10) (by decide)) (by decide) rfl ⟨rfl, rfl, rfl⟩ ⟨Nat.le_of_ble_eq_true rfl, rfl, rfl⟩ (Nat.le_of_ble_eq_true rfl) rfl ?_
        refine ex_st 3 (pc' := 9) (ls' := [(0, xr 143), (1, xi (↑n)), (2, xi (x + 1))]) (st' := [xi ((x + 1) + (↑n))]) rfl ?_
        refine ex_reti rfl rfl ?_
        refine ex_st 1 (pc' := 68) (ls' := [(0, xr 143), (1, xi (↑n)), (2, xi (x + 1))]) (st' := [xi (-((x + 1) + (↑n)))]) rfl ?_
        refine ex_reti rfl rfl ?_
        refine ex_st 3 (pc' := 17) (ls' := [(0, xr 143), (1, xi (↑n)), (2, xi (x + 1))]) (st' := [xi (↑n), xr 145, xi (-((x + 1) + (↑n)))]) rfl ?_
        refine ex_iald (j := n) rfl (by decide) (rfl : xSH[145]? = some _) (by omega) (by omega) (by decide) ?_
        rw [wM_f (by omega), wC_f (by omega), aJ_f (by omega)]
        refine ex_st 1 (pc' := 19) (ls' := [(0, xr 143), (1, xi (↑n)), (2, xi (x + 1))]) (st' := [xi ((-((x + 1) + (↑n))) - (I 145 n))]) rfl ?_
        refine ex_reti rfl rfl ?_
        refine ex_st 1 (pc' := 14) (ls' := [(0, xr 143), (1, xi (↑n)), (2, xi (x + 1))]) (st' := [xi 6, xi ((-((x + 1) + (↑n))) - (I 145 n))]) rfl ?_
        refine ex_ixor rfl ?_
        generalize hzx1 : z_xor ((-((x + 1) + (↑n))) - (I 145 n)) 6 = zx1
        refine ex_reti rfl rfl ?_
        refine ex_reti rfl rfl ?_
        refine ex_st 1 (pc' := 58) (ls' := [(0, xr 143), (1, xi (↑n)), (2, xi 1), (3, xi x)]) (st' := [xi zx1]) rfl ?_
        refine ex_reti rfl rfl ?_
        subst hzx1
        exact ⟨x_req (by first | rfl | omega | (congr 1; omega)), _, _, rfl, Rl.act hR (by decide)⟩
      · exfalso; omega
set_option maxRecDepth 8000 in
set_option maxHeartbeats 4000000 in
theorem op_act_4_2 {sc : List Int} {I : Nat → Nat → Int} {L : Nat → Nat → Int64} (hR : Rl I L) {n : Nat} {x : Int} (hv : (n : Int) < I 1 1) (hq : I 144 n = 4) : x_PQ sc xN_G_act [xr 0, xi (↑n), xi 2, xi x] xN_m_act [xr 143, xi (↑n), xi 2, xi x] (xSH, I, L) := by
  obtain ⟨⟨hNs, hNo, hNa, hNb, hNr, hNd, hNg, hNe, hNp, hNk⟩, hI, hT, hX, hC, hH, hQ⟩ := id hR
  have hs := hNs
  unfold RNs at hs
  have ho := hNo n (by omega)
  have hq2 : I (11 + 3 * n) 0 = 4 := by omega
  refine x_CQ.of (M := xM_G_act) rfl (Nat.le_of_ble_eq_true rfl) ?_
  refine ex_st 2 (pc' := 2) (ls' := [(0, xr 0), (1, xi (↑n)), (2, xi 2), (3, xi x)]) (st' := [xi (↑n), xr 0]) rfl ?_
  refine ex_call (ct_G_isOfficial2 (c := I 1 1) (by first | omega | (constructor <;> omega) | assumption | ((repeat rw [x_up_far (by omega)]); first | rfl | omega | (constructor <;> omega))) (by (repeat rw [x_up_far (by omega)]); try rfl) (by first | omega | (constructor <;> omega) | assumption | ((repeat rw [x_up_far (by omega)]); first | rfl | omega | (constructor <;> omega)))) (by decide) rfl ⟨rfl, rfl, rfl⟩ ⟨Nat.le_of_ble_eq_true rfl, rfl, rfl⟩ (Nat.le_of_ble_eq_true rfl) rfl ?_
  refine ex_beq rfl (fun h0 => ?_) (fun h0 => ?_)
  · exfalso; omega
  · refine ex_st 1 (pc' := 9) (ls' := [(0, xr 0), (1, xi (↑n)), (2, xi 2), (3, xi x)]) (st' := [xi 2]) rfl ?_
    refine ex_st 1 (pc' := 12) (ls' := [(0, xr 0), (1, xi (↑n)), (2, xi 2), (3, xi x)]) (st' := []) rfl ?_
    refine ex_st 2 (pc' := 14) (ls' := [(0, xr 0), (1, xi (↑n)), (2, xi 2), (3, xi x)]) (st' := [xi 2, xi 2]) rfl ?_
    refine ex_st 1 (pc' := 27) (ls' := [(0, xr 0), (1, xi (↑n)), (2, xi 2), (3, xi x)]) (st' := []) rfl ?_
    refine ex_st 4 (pc' := 35) (ls' := [(0, xr 0), (1, xi (↑n)), (2, xi 2), (3, xi x)]) (st' := [xi (↑n), xr 2]) rfl ?_
    refine ex_aald (q := 11 + 3 * n) (j := n) rfl (by decide) (rfl : xSH[2]? = some _) (by decide) (by omega) (by omega) (by decide) (x_aa2 n (by omega)) (by omega) ?_
    refine ex_st 7 (pc' := 47) (ls' := [(4, xr (11 + 3 * n)), (0, xr 0), (1, xi (↑n)), (2, xi 2), (3, xi x)]) (st' := [xi x, xr (11 + 3 * n), xi (↑n), xi 2, xr 104]) rfl ?_
    refine ex_call (ct_A_begin_4_2 (L := L) (n := n) (x := x) (v := I 145 n) (by omega) hq2 ho.2.2.2.1) (by decide) rfl ⟨rfl, rfl, rfl⟩ ⟨Nat.le_of_ble_eq_true rfl, rfl, rfl⟩ (Nat.le_of_ble_eq_true rfl) rfl ?_
    refine ex_reti rfl rfl ?_
    refine x_CQ.of (M := xM_m_act) rfl (Nat.le_of_ble_eq_true rfl) ?_
    refine ex_st 2 (pc' := 2) (ls' := [(0, xr 143), (1, xi (↑n)), (2, xi 2), (3, xi x)]) (st' := [xi 0, xr 143]) rfl ?_
    refine ex_pfi rfl (by decide) (rfl : xSH[143]? = some _) (by decide) rfl (by decide) (fun h => by cases h) ?_
    rw [wM_beg]
    refine ex_st 2 (pc' := 7) (ls' := [(0, xr 143), (1, xi (↑n)), (2, xi 2), (3, xi x)]) (st' := [xi (↑n), xr 143]) rfl ?_
    refine ex_call (ct_m_isOfficial2 (c := I 143 0) (by constructor <;> omega) (by rw [wM_f (by omega), wC_f (by omega), aJ_f (by omega)]) (by omega)) (by decide) rfl ⟨rfl, rfl, rfl⟩ ⟨Nat.le_of_ble_eq_true rfl, rfl, rfl⟩ (Nat.le_of_ble_eq_true rfl) rfl ?_
    refine ex_beq rfl (fun h1 => ?_) (fun h1 => ?_)
    · exfalso; omega
    · refine ex_st 4 (pc' := 17) (ls' := [(0, xr 143), (1, xi (↑n)), (2, xi 2), (3, xi x)]) (st' := [xi 2, xi 0, xi 2, xr 143]) rfl ?_
      refine ex_call (ct_m_in (by first | omega | (constructor <;> omega) | assumption) (by first | omega | (constructor <;> omega) | assumption) (by first | omega | (constructor <;> omega) | assumption)) (by decide) rfl ⟨rfl, rfl, rfl⟩ ⟨Nat.le_of_ble_eq_true rfl, rfl, rfl⟩ (Nat.le_of_ble_eq_true rfl) rfl ?_
      refine ex_bne rfl (fun h2 => ?_) (fun h2 => ?_)
      · refine ex_st 1 (pc' := 26) (ls' := [(0, xr 143), (1, xi (↑n)), (2, xi 2), (3, xi x)]) (st' := [xi 2]) rfl ?_
        refine ex_st 1 (pc' := 38) (ls' := [(0, xr 143), (1, xi (↑n)), (2, xi 2), (3, xi x)]) (st' := []) rfl ?_
        refine ex_st 2 (pc' := 40) (ls' := [(0, xr 143), (1, xi (↑n)), (2, xi 2), (3, xi x)]) (st' := [xi 1, xi 2]) rfl ?_
        refine ex_st 1 (pc' := 52) (ls' := [(0, xr 143), (1, xi (↑n)), (2, xi 2), (3, xi x)]) (st' := []) rfl ?_
        refine ex_st 3 (pc' := 55) (ls' := [(0, xr 143), (1, xi (↑n)), (2, xi 2), (3, xi x)]) (st' := [xi x, xi (↑n), xr 143]) rfl ?_
        refine ex_inl (M' := xM_m_tellsAct) (as := [xr 143, xi (↑n), xi x]) (rest := []) (D' := 28) rfl (Nat.le_of_ble_eq_true rfl) (by decide) rfl ⟨rfl, rfl, rfl⟩ ⟨Nat.le_of_ble_eq_true rfl, rfl, rfl⟩ (Nat.le_of_ble_eq_true rfl) rfl ?_
        refine ex_st 3 (pc' := 5) (ls' := [(0, xr 143), (1, xi (↑n)), (2, xi x)]) (st' := [xi (↑n), xr 144]) rfl ?_
        refine ex_iald (j := n) rfl (by decide) (rfl : xSH[144]? = some _) (by omega) (by omega) (by decide) ?_
        rw [wM_f (by omega), wC_f (by omega), aJ_f (by omega), hq]
        refine ex_st 1 (pc' := 73) (ls' := [(0, xr 143), (1, xi (↑n)), (2, xi x)]) (st' := []) rfl ?_
        refine ex_st 3 (pc' := 76) (ls' := [(0, xr 143), (1, xi (↑n)), (2, xi x)]) (st' := [xi x, xi (↑n), xr 143]) rfl ?_
        refine ex_inl (M' := xM_m_officialTells) (as := [xr 143, xi (↑n), xi x]) (rest := []) (D' := 27) rfl (Nat.le_of_ble_eq_true rfl) (by decide) rfl ⟨rfl, rfl, rfl⟩ ⟨Nat.le_of_ble_eq_true rfl, rfl, rfl⟩ (Nat.le_of_ble_eq_true rfl) rfl ?_
        refine ex_st 2 (pc' := 3) (ls' := [(0, xr 143), (1, xi (↑n)), (2, xi x)]) (st' := [xi 12, xr 143]) rfl ?_
        refine ex_call (ct_m_body (b := 12) (by decide)) (by decide) rfl ⟨rfl, rfl, rfl⟩ ⟨Nat.le_of_ble_eq_true rfl, rfl, rfl⟩ (Nat.le_of_ble_eq_true rfl) rfl ?_
        refine ex_st 3 (pc' := 9) (ls' := [(0, xr 143), (1, xi (↑n)), (2, xi x)]) (st' := [xi x, xi (↑n), xr 143]) rfl ?_
        refine ex_inl (M' := xM_m_looksAct) (as := [xr 143, xi (↑n), xi x]) (rest := []) (D' := 26) rfl (Nat.le_of_ble_eq_true rfl) (by decide) rfl ⟨rfl, rfl, rfl⟩ ⟨Nat.le_of_ble_eq_true rfl, rfl, rfl⟩ (Nat.le_of_ble_eq_true rfl) rfl ?_
        refine ex_st 3 (pc' := 5) (ls' := [(0, xr 143), (1, xi (↑n)), (2, xi x)]) (st' := [xi (↑n), xr 144]) rfl ?_
        refine ex_iald (j := n) rfl (by decide) (rfl : xSH[144]? = some _) (by omega) (by omega) (by decide) ?_
        rw [wM_f (by omega), wC_f (by omega), aJ_f (by omega), hq]
        refine ex_st 1 (pc' := 47) (ls' := [(0, xr 143), (1, xi (↑n)), (2, xi x)]) (st' := []) rfl ?_
        refine ex_st 2 (pc' := 50) (ls' := [(0, xr 143), (1, xi (↑n)), (2, xi x)]) (st' := [xi 51, xr 143]) rfl ?_
        refine ex_call (ct_m_body (b := 51) (by decide)) (by decide) rfl ⟨rfl, rfl, rfl⟩ ⟨Nat.le_of_ble_eq_true rfl, rfl, rfl⟩ (Nat.le_of_ble_eq_true rfl) rfl ?_
        refine ex_st 5 (pc' := 58) (ls' := [(0, xr 143), (1, xi (↑n)), (2, xi x)]) (st' := [xi (x + 1), xi (↑n), xr 143]) rfl ?_
        refine ex_inl (M' := xM_m_clerkLooks) (as := [xr 143, xi (↑n), xi (x + 1)]) (rest := []) (D' := 25) rfl (Nat.le_of_ble_eq_true rfl) (by decide) rfl ⟨rfl, rfl, rfl⟩ ⟨Nat.le_of_ble_eq_true rfl, rfl, rfl⟩ (Nat.le_of_ble_eq_true rfl) rfl ?_
        refine ex_st 2 (pc' := 3) (ls' := [(0, xr 143), (1, xi (↑n)), (2, xi (x + 1))]) (st' := [xi 20, xr 143]) rfl ?_
        refine ex_call (ct_m_body (b := 20) (by decide)) (by decide) rfl ⟨rfl, rfl, rfl⟩ ⟨Nat.le_of_ble_eq_true rfl, rfl, rfl⟩ (Nat.le_of_ble_eq_true rfl) rfl ?_
        refine ex_st 3 (pc' := 9) (ls' := [(0, xr 143), (1, xi (↑n)), (2, xi (x + 1))]) (st' := [xi (x + 1), xi (↑n), xr 143]) rfl ?_
        refine ex_inl (M' := xM_m_officialLooks) (as := [xr 143, xi (↑n), xi (x + 1)]) (rest := []) (D' := 24) rfl (Nat.le_of_ble_eq_true rfl) (by decide) rfl ⟨rfl, rfl, rfl⟩ ⟨Nat.le_of_ble_eq_true rfl, rfl, rfl⟩ (Nat.le_of_ble_eq_true rfl) rfl ?_
        refine ex_st 2 (pc' := 3) (ls' := [(0, xr 143), (1, xi (↑n)), (2, xi (x + 1))]) (st' := [xi 11, xr 143]) rfl ?_
        refine ex_call (ct_m_body (b := 11) (by decide)) (by decide) rfl ⟨rfl, rfl, rfl⟩ ⟨Nat.le_of_ble_eq_true rfl, rfl, rfl⟩ (Nat.le_of_ble_eq_true rfl) rfl ?_
        refine ex_st 3 (pc' := 9) (ls' := [(0, xr 143), (1, xi (↑n)), (2, xi (x + 1))]) (st' := [xi (x + 1), xi (↑n), xr 143]) rfl ?_
        refine ex_inl (M' := xM_m_clucksAct) (as := [xr 143, xi (↑n), xi (x + 1)]) (rest := []) (D' := 23) rfl (Nat.le_of_ble_eq_true rfl) (by decide) rfl ⟨rfl, rfl, rfl⟩ ⟨Nat.le_of_ble_eq_true rfl, rfl, rfl⟩ (Nat.le_of_ble_eq_true rfl) rfl ?_
        refine ex_st 3 (pc' := 5) (ls' := [(0, xr 143), (1, xi (↑n)), (2, xi (x + 1))]) (st' := [xi (↑n), xr 144]) rfl ?_
        refine ex_iald (j := n) rfl (by decide) (rfl : xSH[144]? = some _) (by omega) (by omega) (by decide) ?_
        rw [wM_f (by omega), wC_f (by omega), aJ_f (by omega), hq]
        refine ex_st 1 (pc' := 55) (ls' := [(0, xr 143), (1, xi (↑n)), (2, xi (x + 1))]) (st' := []) rfl ?_
        refine ex_st 2 (pc' := 58) (ls' := [(0, xr 143), (1, xi (↑n)), (2, xi (x + 1))]) (st' := [xi 50, xr 143]) rfl ?_
        refine ex_call (ct_m_body (b := 50) (by decide)) (by decide) rfl ⟨rfl, rfl, rfl⟩ ⟨Nat.le_of_ble_eq_true rfl, rfl, rfl⟩ (Nat.le_of_ble_eq_true rfl) rfl ?_
        refine ex_st 3 (pc' := 64) (ls' := [(0, xr 143), (1, xi (↑n)), (2, xi (x + 1))]) (st' := [xi (x + 1), xi (↑n), xr 143]) rfl ?_
        refine ex_inl (M' := xM_m_officialClucks) (as := [xr 143, xi (↑n), xi (x + 1)]) (rest := []) (D' := 22) rfl (Nat.le_of_ble_eq_true rfl) (by decide) rfl ⟨rfl, rfl, rfl⟩ ⟨Nat.le_of_ble_eq_true rfl, rfl, rfl⟩ (Nat.le_of_ble_eq_true rfl) rfl ?_
        refine ex_st 2 (pc' := 3) (ls' := [(0, xr 143), (1, xi (↑n)), (2, xi (x + 1))]) (st' := [xi 10, xr 143]) rfl ?_
        refine ex_call (ct_m_body (b := 10) (by decide)) (by decide) rfl ⟨rfl, rfl, rfl⟩ ⟨Nat.le_of_ble_eq_true rfl, rfl, rfl⟩ (Nat.le_of_ble_eq_true rfl) rfl ?_
        refine ex_st 3 (pc' := 9) (ls' := [(0, xr 143), (1, xi (↑n)), (2, xi (x + 1))]) (st' := [xi ((x + 1) + (↑n))]) rfl ?_
        refine ex_reti rfl rfl ?_
        refine ex_st 1 (pc' := 68) (ls' := [(0, xr 143), (1, xi (↑n)), (2, xi (x + 1))]) (st' := [xi (-((x + 1) + (↑n)))]) rfl ?_
        refine ex_reti rfl rfl ?_
        refine ex_st 3 (pc' := 17) (ls' := [(0, xr 143), (1, xi (↑n)), (2, xi (x + 1))]) (st' := [xi (↑n), xr 145, xi (-((x + 1) + (↑n)))]) rfl ?_
        refine ex_iald (j := n) rfl (by decide) (rfl : xSH[145]? = some _) (by omega) (by omega) (by decide) ?_
        rw [wM_f (by omega), wC_f (by omega), aJ_f (by omega)]
        refine ex_st 1 (pc' := 19) (ls' := [(0, xr 143), (1, xi (↑n)), (2, xi (x + 1))]) (st' := [xi ((-((x + 1) + (↑n))) - (I 145 n))]) rfl ?_
        refine ex_reti rfl rfl ?_
        refine ex_st 1 (pc' := 14) (ls' := [(0, xr 143), (1, xi (↑n)), (2, xi (x + 1))]) (st' := [xi 6, xi ((-((x + 1) + (↑n))) - (I 145 n))]) rfl ?_
        refine ex_ixor rfl ?_
        generalize hzx1 : z_xor ((-((x + 1) + (↑n))) - (I 145 n)) 6 = zx1
        refine ex_reti rfl rfl ?_
        refine ex_reti rfl rfl ?_
        refine ex_st 2 (pc' := 14) (ls' := [(0, xr 143), (1, xi (↑n)), (2, xi x)]) (st' := [xi (zx1 * 2)]) rfl ?_
        refine ex_reti rfl rfl ?_
        refine ex_reti rfl rfl ?_
        refine ex_reti rfl rfl ?_
        subst hzx1
        exact ⟨x_req (by first | rfl | omega | (congr 1; omega)), _, _, rfl, Rl.act hR (by decide)⟩
      · exfalso; omega
set_option maxRecDepth 8000 in
set_option maxHeartbeats 4000000 in
theorem op_act_5_0 {sc : List Int} {I : Nat → Nat → Int} {L : Nat → Nat → Int64} (hR : Rl I L) {n : Nat} {x : Int} (hv : (n : Int) < I 1 1) (hq : I 144 n = 5) : x_PQ sc xN_G_act [xr 0, xi (↑n), xi 0, xi x] xN_m_act [xr 143, xi (↑n), xi 0, xi x] (xSH, I, L) := by
  obtain ⟨⟨hNs, hNo, hNa, hNb, hNr, hNd, hNg, hNe, hNp, hNk⟩, hI, hT, hX, hC, hH, hQ⟩ := id hR
  have hs := hNs
  unfold RNs at hs
  have ho := hNo n (by omega)
  have hq2 : I (11 + 3 * n) 0 = 5 := by omega
  refine x_CQ.of (M := xM_G_act) rfl (Nat.le_of_ble_eq_true rfl) ?_
  refine ex_st 2 (pc' := 2) (ls' := [(0, xr 0), (1, xi (↑n)), (2, xi 0), (3, xi x)]) (st' := [xi (↑n), xr 0]) rfl ?_
  refine ex_call (ct_G_isOfficial2 (c := I 1 1) (by first | omega | (constructor <;> omega) | assumption | ((repeat rw [x_up_far (by omega)]); first | rfl | omega | (constructor <;> omega))) (by (repeat rw [x_up_far (by omega)]); try rfl) (by first | omega | (constructor <;> omega) | assumption | ((repeat rw [x_up_far (by omega)]); first | rfl | omega | (constructor <;> omega)))) (by decide) rfl ⟨rfl, rfl, rfl⟩ ⟨Nat.le_of_ble_eq_true rfl, rfl, rfl⟩ (Nat.le_of_ble_eq_true rfl) rfl ?_
  refine ex_beq rfl (fun h0 => ?_) (fun h0 => ?_)
  · exfalso; omega
  · refine ex_st 1 (pc' := 9) (ls' := [(0, xr 0), (1, xi (↑n)), (2, xi 0), (3, xi x)]) (st' := [xi 0]) rfl ?_
    refine ex_st 1 (pc' := 12) (ls' := [(0, xr 0), (1, xi (↑n)), (2, xi 0), (3, xi x)]) (st' := []) rfl ?_
    refine ex_st 2 (pc' := 14) (ls' := [(0, xr 0), (1, xi (↑n)), (2, xi 0), (3, xi x)]) (st' := [xi 2, xi 0]) rfl ?_
    refine ex_st 1 (pc' := 27) (ls' := [(0, xr 0), (1, xi (↑n)), (2, xi 0), (3, xi x)]) (st' := []) rfl ?_
    refine ex_st 4 (pc' := 35) (ls' := [(0, xr 0), (1, xi (↑n)), (2, xi 0), (3, xi x)]) (st' := [xi (↑n), xr 2]) rfl ?_
    refine ex_aald (q := 11 + 3 * n) (j := n) rfl (by decide) (rfl : xSH[2]? = some _) (by decide) (by omega) (by omega) (by decide) (x_aa2 n (by omega)) (by omega) ?_
    refine ex_st 7 (pc' := 47) (ls' := [(4, xr (11 + 3 * n)), (0, xr 0), (1, xi (↑n)), (2, xi 0), (3, xi x)]) (st' := [xi x, xr (11 + 3 * n), xi (↑n), xi 0, xr 104]) rfl ?_
    refine ex_call (ct_A_begin_5_0 (L := L) (n := n) (x := x) (v := I 145 n) (by omega) hq2 ho.2.2.2.1) (by decide) rfl ⟨rfl, rfl, rfl⟩ ⟨Nat.le_of_ble_eq_true rfl, rfl, rfl⟩ (Nat.le_of_ble_eq_true rfl) rfl ?_
    refine ex_reti rfl rfl ?_
    refine x_CQ.of (M := xM_m_act) rfl (Nat.le_of_ble_eq_true rfl) ?_
    refine ex_st 2 (pc' := 2) (ls' := [(0, xr 143), (1, xi (↑n)), (2, xi 0), (3, xi x)]) (st' := [xi 0, xr 143]) rfl ?_
    refine ex_pfi rfl (by decide) (rfl : xSH[143]? = some _) (by decide) rfl (by decide) (fun h => by cases h) ?_
    rw [wM_beg]
    refine ex_st 2 (pc' := 7) (ls' := [(0, xr 143), (1, xi (↑n)), (2, xi 0), (3, xi x)]) (st' := [xi (↑n), xr 143]) rfl ?_
    refine ex_call (ct_m_isOfficial2 (c := I 143 0) (by constructor <;> omega) (by rw [wM_f (by omega), wC_f (by omega), aJ_f (by omega)]) (by omega)) (by decide) rfl ⟨rfl, rfl, rfl⟩ ⟨Nat.le_of_ble_eq_true rfl, rfl, rfl⟩ (Nat.le_of_ble_eq_true rfl) rfl ?_
    refine ex_beq rfl (fun h1 => ?_) (fun h1 => ?_)
    · exfalso; omega
    · refine ex_st 4 (pc' := 17) (ls' := [(0, xr 143), (1, xi (↑n)), (2, xi 0), (3, xi x)]) (st' := [xi 2, xi 0, xi 0, xr 143]) rfl ?_
      refine ex_call (ct_m_in (by first | omega | (constructor <;> omega) | assumption) (by first | omega | (constructor <;> omega) | assumption) (by first | omega | (constructor <;> omega) | assumption)) (by decide) rfl ⟨rfl, rfl, rfl⟩ ⟨Nat.le_of_ble_eq_true rfl, rfl, rfl⟩ (Nat.le_of_ble_eq_true rfl) rfl ?_
      refine ex_bne rfl (fun h2 => ?_) (fun h2 => ?_)
      · refine ex_st 1 (pc' := 26) (ls' := [(0, xr 143), (1, xi (↑n)), (2, xi 0), (3, xi x)]) (st' := [xi 0]) rfl ?_
        refine ex_st 1 (pc' := 29) (ls' := [(0, xr 143), (1, xi (↑n)), (2, xi 0), (3, xi x)]) (st' := []) rfl ?_
        refine ex_st 3 (pc' := 32) (ls' := [(0, xr 143), (1, xi (↑n)), (2, xi 0), (3, xi x)]) (st' := [xi x, xi (↑n), xr 143]) rfl ?_
        refine ex_inl (M' := xM_m_clucksAct) (as := [xr 143, xi (↑n), xi x]) (rest := []) (D' := 28) rfl (Nat.le_of_ble_eq_true rfl) (by decide) rfl ⟨rfl, rfl, rfl⟩ ⟨Nat.le_of_ble_eq_true rfl, rfl, rfl⟩ (Nat.le_of_ble_eq_true rfl) rfl ?_
        refine ex_st 3 (pc' := 5) (ls' := [(0, xr 143), (1, xi (↑n)), (2, xi x)]) (st' := [xi (↑n), xr 144]) rfl ?_
        refine ex_iald (j := n) rfl (by decide) (rfl : xSH[144]? = some _) (by omega) (by omega) (by decide) ?_
        rw [wM_f (by omega), wC_f (by omega), aJ_f (by omega), hq]
        refine ex_st 1 (pc' := 40) (ls' := [(0, xr 143), (1, xi (↑n)), (2, xi x)]) (st' := []) rfl ?_
        refine ex_st 2 (pc' := 43) (ls' := [(0, xr 143), (1, xi (↑n)), (2, xi x)]) (st' := [xi 30, xr 143]) rfl ?_
        refine ex_call (ct_m_body (b := 30) (by decide)) (by decide) rfl ⟨rfl, rfl, rfl⟩ ⟨Nat.le_of_ble_eq_true rfl, rfl, rfl⟩ (Nat.le_of_ble_eq_true rfl) rfl ?_
        refine ex_st 5 (pc' := 51) (ls' := [(0, xr 143), (1, xi (↑n)), (2, xi x)]) (st' := [xi (x * 3), xi (↑n), xr 143]) rfl ?_
        refine ex_inl (M' := xM_m_officialClucks) (as := [xr 143, xi (↑n), xi (x * 3)]) (rest := []) (D' := 27) rfl (Nat.le_of_ble_eq_true rfl) (by decide) rfl ⟨rfl, rfl, rfl⟩ ⟨Nat.le_of_ble_eq_true rfl, rfl, rfl⟩ (Nat.le_of_ble_eq_true rfl) rfl ?_
        refine ex_st 2 (pc' := 3) (ls' := [(0, xr 143), (1, xi (↑n)), (2, xi (x * 3))]) (st' := [xi 10, xr 143]) rfl ?_
        refine ex_call (ct_m_body (b := 10) (by decide)) (by decide) rfl ⟨rfl, rfl, rfl⟩ ⟨Nat.le_of_ble_eq_true rfl, rfl, rfl⟩ (Nat.le_of_ble_eq_true rfl) rfl ?_
        refine ex_st 3 (pc' := 9) (ls' := [(0, xr 143), (1, xi (↑n)), (2, xi (x * 3))]) (st' := [xi ((x * 3) + (↑n))]) rfl ?_
        refine ex_reti rfl rfl ?_
        refine ex_reti rfl rfl ?_
        refine ex_st 1 (pc' := 58) (ls' := [(0, xr 143), (1, xi (↑n)), (2, xi 0), (3, xi x)]) (st' := [xi ((x * 3) + (↑n))]) rfl ?_
        refine ex_reti rfl rfl ?_
        exact ⟨x_req (by first | rfl | omega | (congr 1; omega)), _, _, rfl, Rl.act hR (by decide)⟩
      · exfalso; omega
set_option maxRecDepth 8000 in
set_option maxHeartbeats 4000000 in
theorem op_act_5_1 {sc : List Int} {I : Nat → Nat → Int} {L : Nat → Nat → Int64} (hR : Rl I L) {n : Nat} {x : Int} (hv : (n : Int) < I 1 1) (hq : I 144 n = 5) : x_PQ sc xN_G_act [xr 0, xi (↑n), xi 1, xi x] xN_m_act [xr 143, xi (↑n), xi 1, xi x] (xSH, I, L) := by
  obtain ⟨⟨hNs, hNo, hNa, hNb, hNr, hNd, hNg, hNe, hNp, hNk⟩, hI, hT, hX, hC, hH, hQ⟩ := id hR
  have hs := hNs
  unfold RNs at hs
  have ho := hNo n (by omega)
  have hq2 : I (11 + 3 * n) 0 = 5 := by omega
  refine x_CQ.of (M := xM_G_act) rfl (Nat.le_of_ble_eq_true rfl) ?_
  refine ex_st 2 (pc' := 2) (ls' := [(0, xr 0), (1, xi (↑n)), (2, xi 1), (3, xi x)]) (st' := [xi (↑n), xr 0]) rfl ?_
  refine ex_call (ct_G_isOfficial2 (c := I 1 1) (by first | omega | (constructor <;> omega) | assumption | ((repeat rw [x_up_far (by omega)]); first | rfl | omega | (constructor <;> omega))) (by (repeat rw [x_up_far (by omega)]); try rfl) (by first | omega | (constructor <;> omega) | assumption | ((repeat rw [x_up_far (by omega)]); first | rfl | omega | (constructor <;> omega)))) (by decide) rfl ⟨rfl, rfl, rfl⟩ ⟨Nat.le_of_ble_eq_true rfl, rfl, rfl⟩ (Nat.le_of_ble_eq_true rfl) rfl ?_
  refine ex_beq rfl (fun h0 => ?_) (fun h0 => ?_)
  · exfalso; omega
  · refine ex_st 1 (pc' := 9) (ls' := [(0, xr 0), (1, xi (↑n)), (2, xi 1), (3, xi x)]) (st' := [xi 1]) rfl ?_
    refine ex_st 1 (pc' := 12) (ls' := [(0, xr 0), (1, xi (↑n)), (2, xi 1), (3, xi x)]) (st' := []) rfl ?_
    refine ex_st 2 (pc' := 14) (ls' := [(0, xr 0), (1, xi (↑n)), (2, xi 1), (3, xi x)]) (st' := [xi 2, xi 1]) rfl ?_
    refine ex_st 1 (pc' := 27) (ls' := [(0, xr 0), (1, xi (↑n)), (2, xi 1), (3, xi x)]) (st' := []) rfl ?_
    refine ex_st 4 (pc' := 35) (ls' := [(0, xr 0), (1, xi (↑n)), (2, xi 1), (3, xi x)]) (st' := [xi (↑n), xr 2]) rfl ?_
    refine ex_aald (q := 11 + 3 * n) (j := n) rfl (by decide) (rfl : xSH[2]? = some _) (by decide) (by omega) (by omega) (by decide) (x_aa2 n (by omega)) (by omega) ?_
    refine ex_st 7 (pc' := 47) (ls' := [(4, xr (11 + 3 * n)), (0, xr 0), (1, xi (↑n)), (2, xi 1), (3, xi x)]) (st' := [xi x, xr (11 + 3 * n), xi (↑n), xi 1, xr 104]) rfl ?_
    refine ex_call (ct_A_begin_5_1 (L := L) (n := n) (x := x) (v := I 145 n) (by omega) hq2 ho.2.2.2.1) (by decide) rfl ⟨rfl, rfl, rfl⟩ ⟨Nat.le_of_ble_eq_true rfl, rfl, rfl⟩ (Nat.le_of_ble_eq_true rfl) rfl ?_
    refine ex_reti rfl rfl ?_
    refine x_CQ.of (M := xM_m_act) rfl (Nat.le_of_ble_eq_true rfl) ?_
    refine ex_st 2 (pc' := 2) (ls' := [(0, xr 143), (1, xi (↑n)), (2, xi 1), (3, xi x)]) (st' := [xi 0, xr 143]) rfl ?_
    refine ex_pfi rfl (by decide) (rfl : xSH[143]? = some _) (by decide) rfl (by decide) (fun h => by cases h) ?_
    rw [wM_beg]
    refine ex_st 2 (pc' := 7) (ls' := [(0, xr 143), (1, xi (↑n)), (2, xi 1), (3, xi x)]) (st' := [xi (↑n), xr 143]) rfl ?_
    refine ex_call (ct_m_isOfficial2 (c := I 143 0) (by constructor <;> omega) (by rw [wM_f (by omega), wC_f (by omega), aJ_f (by omega)]) (by omega)) (by decide) rfl ⟨rfl, rfl, rfl⟩ ⟨Nat.le_of_ble_eq_true rfl, rfl, rfl⟩ (Nat.le_of_ble_eq_true rfl) rfl ?_
    refine ex_beq rfl (fun h1 => ?_) (fun h1 => ?_)
    · exfalso; omega
    · refine ex_st 4 (pc' := 17) (ls' := [(0, xr 143), (1, xi (↑n)), (2, xi 1), (3, xi x)]) (st' := [xi 2, xi 0, xi 1, xr 143]) rfl ?_
      refine ex_call (ct_m_in (by first | omega | (constructor <;> omega) | assumption) (by first | omega | (constructor <;> omega) | assumption) (by first | omega | (constructor <;> omega) | assumption)) (by decide) rfl ⟨rfl, rfl, rfl⟩ ⟨Nat.le_of_ble_eq_true rfl, rfl, rfl⟩ (Nat.le_of_ble_eq_true rfl) rfl ?_
      refine ex_bne rfl (fun h2 => ?_) (fun h2 => ?_)
      · refine ex_st 1 (pc' := 26) (ls' := [(0, xr 143), (1, xi (↑n)), (2, xi 1), (3, xi x)]) (st' := [xi 1]) rfl ?_
        refine ex_st 1 (pc' := 38) (ls' := [(0, xr 143), (1, xi (↑n)), (2, xi 1), (3, xi x)]) (st' := []) rfl ?_
        refine ex_st 2 (pc' := 40) (ls' := [(0, xr 143), (1, xi (↑n)), (2, xi 1), (3, xi x)]) (st' := [xi 1, xi 1]) rfl ?_
        refine ex_st 1 (pc' := 43) (ls' := [(0, xr 143), (1, xi (↑n)), (2, xi 1), (3, xi x)]) (st' := []) rfl ?_
        refine ex_st 3 (pc' := 46) (ls' := [(0, xr 143), (1, xi (↑n)), (2, xi 1), (3, xi x)]) (st' := [xi x, xi (↑n), xr 143]) rfl ?_
        refine ex_inl (M' := xM_m_looksAct) (as := [xr 143, xi (↑n), xi x]) (rest := []) (D' := 28) rfl (Nat.le_of_ble_eq_true rfl) (by decide) rfl ⟨rfl, rfl, rfl⟩ ⟨Nat.le_of_ble_eq_true rfl, rfl, rfl⟩ (Nat.le_of_ble_eq_true rfl) rfl ?_
        refine ex_st 3 (pc' := 5) (ls' := [(0, xr 143), (1, xi (↑n)), (2, xi x)]) (st' := [xi (↑n), xr 144]) rfl ?_
        refine ex_iald (j := n) rfl (by decide) (rfl : xSH[144]? = some _) (by omega) (by omega) (by decide) ?_
        rw [wM_f (by omega), wC_f (by omega), aJ_f (by omega), hq]
        refine ex_st 1 (pc' := 84) (ls' := [(0, xr 143), (1, xi (↑n)), (2, xi x)]) (st' := []) rfl ?_
        refine ex_st 3 (pc' := 87) (ls' := [(0, xr 143), (1, xi (↑n)), (2, xi x)]) (st' := [xi x, xi (↑n), xr 143]) rfl ?_
        refine ex_inl (M' := xM_m_officialLooks) (as := [xr 143, xi (↑n), xi x]) (rest := []) (D' := 27) rfl (Nat.le_of_ble_eq_true rfl) (by decide) rfl ⟨rfl, rfl, rfl⟩ ⟨Nat.le_of_ble_eq_true rfl, rfl, rfl⟩ (Nat.le_of_ble_eq_true rfl) rfl ?_
        refine ex_st 2 (pc' := 3) (ls' := [(0, xr 143), (1, xi (↑n)), (2, xi x)]) (st' := [xi 11, xr 143]) rfl ?_
        refine ex_call (ct_m_body (b := 11) (by decide)) (by decide) rfl ⟨rfl, rfl, rfl⟩ ⟨Nat.le_of_ble_eq_true rfl, rfl, rfl⟩ (Nat.le_of_ble_eq_true rfl) rfl ?_
        refine ex_st 3 (pc' := 9) (ls' := [(0, xr 143), (1, xi (↑n)), (2, xi x)]) (st' := [xi x, xi (↑n), xr 143]) rfl ?_
        refine ex_inl (M' := xM_m_clucksAct) (as := [xr 143, xi (↑n), xi x]) (rest := []) (D' := 26) rfl (Nat.le_of_ble_eq_true rfl) (by decide) rfl ⟨rfl, rfl, rfl⟩ ⟨Nat.le_of_ble_eq_true rfl, rfl, rfl⟩ (Nat.le_of_ble_eq_true rfl) rfl ?_
        refine ex_st 3 (pc' := 5) (ls' := [(0, xr 143), (1, xi (↑n)), (2, xi x)]) (st' := [xi (↑n), xr 144]) rfl ?_
        refine ex_iald (j := n) rfl (by decide) (rfl : xSH[144]? = some _) (by omega) (by omega) (by decide) ?_
        rw [wM_f (by omega), wC_f (by omega), aJ_f (by omega), hq]
        refine ex_st 1 (pc' := 40) (ls' := [(0, xr 143), (1, xi (↑n)), (2, xi x)]) (st' := []) rfl ?_
        refine ex_st 2 (pc' := 43) (ls' := [(0, xr 143), (1, xi (↑n)), (2, xi x)]) (st' := [xi 30, xr 143]) rfl ?_
        refine ex_call (ct_m_body (b := 30) (by decide)) (by decide) rfl ⟨rfl, rfl, rfl⟩ ⟨Nat.le_of_ble_eq_true rfl, rfl, rfl⟩ (Nat.le_of_ble_eq_true rfl) rfl ?_
        refine ex_st 5 (pc' := 51) (ls' := [(0, xr 143), (1, xi (↑n)), (2, xi x)]) (st' := [xi (x * 3), xi (↑n), xr 143]) rfl ?_
        refine ex_inl (M' := xM_m_officialClucks) (as := [xr 143, xi (↑n), xi (x * 3)]) (rest := []) (D' := 25) rfl (Nat.le_of_ble_eq_true rfl) (by decide) rfl ⟨rfl, rfl, rfl⟩ ⟨Nat.le_of_ble_eq_true rfl, rfl, rfl⟩ (Nat.le_of_ble_eq_true rfl) rfl ?_
        refine ex_st 2 (pc' := 3) (ls' := [(0, xr 143), (1, xi (↑n)), (2, xi (x * 3))]) (st' := [xi 10, xr 143]) rfl ?_
        refine ex_call (ct_m_body (b := 10) (by decide)) (by decide) rfl ⟨rfl, rfl, rfl⟩ ⟨Nat.le_of_ble_eq_true rfl, rfl, rfl⟩ (Nat.le_of_ble_eq_true rfl) rfl ?_
        refine ex_st 3 (pc' := 9) (ls' := [(0, xr 143), (1, xi (↑n)), (2, xi (x * 3))]) (st' := [xi ((x * 3) + (↑n))]) rfl ?_
        refine ex_reti rfl rfl ?_
        refine ex_reti rfl rfl ?_
        refine ex_st 3 (pc' := 17) (ls' := [(0, xr 143), (1, xi (↑n)), (2, xi x)]) (st' := [xi (↑n), xr 145, xi ((x * 3) + (↑n))]) rfl ?_
        refine ex_iald (j := n) rfl (by decide) (rfl : xSH[145]? = some _) (by omega) (by omega) (by decide) ?_
        rw [wM_f (by omega), wC_f (by omega), aJ_f (by omega)]
        refine ex_st 1 (pc' := 19) (ls' := [(0, xr 143), (1, xi (↑n)), (2, xi x)]) (st' := [xi (((x * 3) + (↑n)) - (I 145 n))]) rfl ?_
        refine ex_reti rfl rfl ?_
        refine ex_reti rfl rfl ?_
        refine ex_st 1 (pc' := 58) (ls' := [(0, xr 143), (1, xi (↑n)), (2, xi 1), (3, xi x)]) (st' := [xi (((x * 3) + (↑n)) - (I 145 n))]) rfl ?_
        refine ex_reti rfl rfl ?_
        exact ⟨x_req (by first | rfl | omega | (congr 1; omega)), _, _, rfl, Rl.act hR (by decide)⟩
      · exfalso; omega
set_option maxRecDepth 8000 in
set_option maxHeartbeats 4000000 in
theorem op_act_5_2 {sc : List Int} {I : Nat → Nat → Int} {L : Nat → Nat → Int64} (hR : Rl I L) {n : Nat} {x : Int} (hv : (n : Int) < I 1 1) (hq : I 144 n = 5) : x_PQ sc xN_G_act [xr 0, xi (↑n), xi 2, xi x] xN_m_act [xr 143, xi (↑n), xi 2, xi x] (xSH, I, L) := by
  obtain ⟨⟨hNs, hNo, hNa, hNb, hNr, hNd, hNg, hNe, hNp, hNk⟩, hI, hT, hX, hC, hH, hQ⟩ := id hR
  have hs := hNs
  unfold RNs at hs
  have ho := hNo n (by omega)
  have hq2 : I (11 + 3 * n) 0 = 5 := by omega
  refine x_CQ.of (M := xM_G_act) rfl (Nat.le_of_ble_eq_true rfl) ?_
  refine ex_st 2 (pc' := 2) (ls' := [(0, xr 0), (1, xi (↑n)), (2, xi 2), (3, xi x)]) (st' := [xi (↑n), xr 0]) rfl ?_
  refine ex_call (ct_G_isOfficial2 (c := I 1 1) (by first | omega | (constructor <;> omega) | assumption | ((repeat rw [x_up_far (by omega)]); first | rfl | omega | (constructor <;> omega))) (by (repeat rw [x_up_far (by omega)]); try rfl) (by first | omega | (constructor <;> omega) | assumption | ((repeat rw [x_up_far (by omega)]); first | rfl | omega | (constructor <;> omega)))) (by decide) rfl ⟨rfl, rfl, rfl⟩ ⟨Nat.le_of_ble_eq_true rfl, rfl, rfl⟩ (Nat.le_of_ble_eq_true rfl) rfl ?_
  refine ex_beq rfl (fun h0 => ?_) (fun h0 => ?_)
  · exfalso; omega
  · refine ex_st 1 (pc' := 9) (ls' := [(0, xr 0), (1, xi (↑n)), (2, xi 2), (3, xi x)]) (st' := [xi 2]) rfl ?_
    refine ex_st 1 (pc' := 12) (ls' := [(0, xr 0), (1, xi (↑n)), (2, xi 2), (3, xi x)]) (st' := []) rfl ?_
    refine ex_st 2 (pc' := 14) (ls' := [(0, xr 0), (1, xi (↑n)), (2, xi 2), (3, xi x)]) (st' := [xi 2, xi 2]) rfl ?_
    refine ex_st 1 (pc' := 27) (ls' := [(0, xr 0), (1, xi (↑n)), (2, xi 2), (3, xi x)]) (st' := []) rfl ?_
    refine ex_st 4 (pc' := 35) (ls' := [(0, xr 0), (1, xi (↑n)), (2, xi 2), (3, xi x)]) (st' := [xi (↑n), xr 2]) rfl ?_
    refine ex_aald (q := 11 + 3 * n) (j := n) rfl (by decide) (rfl : xSH[2]? = some _) (by decide) (by omega) (by omega) (by decide) (x_aa2 n (by omega)) (by omega) ?_
    refine ex_st 7 (pc' := 47) (ls' := [(4, xr (11 + 3 * n)), (0, xr 0), (1, xi (↑n)), (2, xi 2), (3, xi x)]) (st' := [xi x, xr (11 + 3 * n), xi (↑n), xi 2, xr 104]) rfl ?_
    refine ex_call (ct_A_begin_5_2 (L := L) (n := n) (x := x) (v := I 145 n) (by omega) hq2 ho.2.2.2.1) (by decide) rfl ⟨rfl, rfl, rfl⟩ ⟨Nat.le_of_ble_eq_true rfl, rfl, rfl⟩ (Nat.le_of_ble_eq_true rfl) rfl ?_
    refine ex_reti rfl rfl ?_
    refine x_CQ.of (M := xM_m_act) rfl (Nat.le_of_ble_eq_true rfl) ?_
    refine ex_st 2 (pc' := 2) (ls' := [(0, xr 143), (1, xi (↑n)), (2, xi 2), (3, xi x)]) (st' := [xi 0, xr 143]) rfl ?_
    refine ex_pfi rfl (by decide) (rfl : xSH[143]? = some _) (by decide) rfl (by decide) (fun h => by cases h) ?_
    rw [wM_beg]
    refine ex_st 2 (pc' := 7) (ls' := [(0, xr 143), (1, xi (↑n)), (2, xi 2), (3, xi x)]) (st' := [xi (↑n), xr 143]) rfl ?_
    refine ex_call (ct_m_isOfficial2 (c := I 143 0) (by constructor <;> omega) (by rw [wM_f (by omega), wC_f (by omega), aJ_f (by omega)]) (by omega)) (by decide) rfl ⟨rfl, rfl, rfl⟩ ⟨Nat.le_of_ble_eq_true rfl, rfl, rfl⟩ (Nat.le_of_ble_eq_true rfl) rfl ?_
    refine ex_beq rfl (fun h1 => ?_) (fun h1 => ?_)
    · exfalso; omega
    · refine ex_st 4 (pc' := 17) (ls' := [(0, xr 143), (1, xi (↑n)), (2, xi 2), (3, xi x)]) (st' := [xi 2, xi 0, xi 2, xr 143]) rfl ?_
      refine ex_call (ct_m_in (by first | omega | (constructor <;> omega) | assumption) (by first | omega | (constructor <;> omega) | assumption) (by first | omega | (constructor <;> omega) | assumption)) (by decide) rfl ⟨rfl, rfl, rfl⟩ ⟨Nat.le_of_ble_eq_true rfl, rfl, rfl⟩ (Nat.le_of_ble_eq_true rfl) rfl ?_
      refine ex_bne rfl (fun h2 => ?_) (fun h2 => ?_)
      · refine ex_st 1 (pc' := 26) (ls' := [(0, xr 143), (1, xi (↑n)), (2, xi 2), (3, xi x)]) (st' := [xi 2]) rfl ?_
        refine ex_st 1 (pc' := 38) (ls' := [(0, xr 143), (1, xi (↑n)), (2, xi 2), (3, xi x)]) (st' := []) rfl ?_
        refine ex_st 2 (pc' := 40) (ls' := [(0, xr 143), (1, xi (↑n)), (2, xi 2), (3, xi x)]) (st' := [xi 1, xi 2]) rfl ?_
        refine ex_st 1 (pc' := 52) (ls' := [(0, xr 143), (1, xi (↑n)), (2, xi 2), (3, xi x)]) (st' := []) rfl ?_
        refine ex_st 3 (pc' := 55) (ls' := [(0, xr 143), (1, xi (↑n)), (2, xi 2), (3, xi x)]) (st' := [xi x, xi (↑n), xr 143]) rfl ?_
        refine ex_inl (M' := xM_m_tellsAct) (as := [xr 143, xi (↑n), xi x]) (rest := []) (D' := 28) rfl (Nat.le_of_ble_eq_true rfl) (by decide) rfl ⟨rfl, rfl, rfl⟩ ⟨Nat.le_of_ble_eq_true rfl, rfl, rfl⟩ (Nat.le_of_ble_eq_true rfl) rfl ?_
        refine ex_st 3 (pc' := 5) (ls' := [(0, xr 143), (1, xi (↑n)), (2, xi x)]) (st' := [xi (↑n), xr 144]) rfl ?_
        refine ex_iald (j := n) rfl (by decide) (rfl : xSH[144]? = some _) (by omega) (by omega) (by decide) ?_
        rw [wM_f (by omega), wC_f (by omega), aJ_f (by omega), hq]
        refine ex_st 1 (pc' := 58) (ls' := [(0, xr 143), (1, xi (↑n)), (2, xi x)]) (st' := []) rfl ?_
        refine ex_st 2 (pc' := 61) (ls' := [(0, xr 143), (1, xi (↑n)), (2, xi x)]) (st' := [xi 60, xr 143]) rfl ?_
        refine ex_call (ct_m_body (b := 60) (by decide)) (by decide) rfl ⟨rfl, rfl, rfl⟩ ⟨Nat.le_of_ble_eq_true rfl, rfl, rfl⟩ (Nat.le_of_ble_eq_true rfl) rfl ?_
        refine ex_st 5 (pc' := 69) (ls' := [(0, xr 143), (1, xi (↑n)), (2, xi x)]) (st' := [xi (x - (↑n)), xi (↑n), xr 143]) rfl ?_
        refine ex_inl (M' := xM_m_officialTells) (as := [xr 143, xi (↑n), xi (x - (↑n))]) (rest := []) (D' := 27) rfl (Nat.le_of_ble_eq_true rfl) (by decide) rfl ⟨rfl, rfl, rfl⟩ ⟨Nat.le_of_ble_eq_true rfl, rfl, rfl⟩ (Nat.le_of_ble_eq_true rfl) rfl ?_
        refine ex_st 2 (pc' := 3) (ls' := [(0, xr 143), (1, xi (↑n)), (2, xi (x - (↑n)))]) (st' := [xi 12, xr 143]) rfl ?_
        refine ex_call (ct_m_body (b := 12) (by decide)) (by decide) rfl ⟨rfl, rfl, rfl⟩ ⟨Nat.le_of_ble_eq_true rfl, rfl, rfl⟩ (Nat.le_of_ble_eq_true rfl) rfl ?_
        refine ex_st 3 (pc' := 9) (ls' := [(0, xr 143), (1, xi (↑n)), (2, xi (x - (↑n)))]) (st' := [xi (x - (↑n)), xi (↑n), xr 143]) rfl ?_
        refine ex_inl (M' := xM_m_looksAct) (as := [xr 143, xi (↑n), xi (x - (↑n))]) (rest := []) (D' := 26) rfl (Nat.le_of_ble_eq_true rfl) (by decide) rfl ⟨rfl, rfl, rfl⟩ ⟨Nat.le_of_ble_eq_true rfl, rfl, rfl⟩ (Nat.le_of_ble_eq_true rfl) rfl ?_
        refine ex_st 3 (pc' := 5) (ls' := [(0, xr 143), (1, xi (↑n)), (2, xi (x - (↑n)))]) (st' := [xi (↑n), xr 144]) rfl ?_
        refine ex_iald (j := n) rfl (by decide) (rfl : xSH[144]? = some _) (by omega) (by omega) (by decide) ?_
        rw [wM_f (by omega), wC_f (by omega), aJ_f (by omega), hq]
        refine ex_st 1 (pc' := 84) (ls' := [(0, xr 143), (1, xi (↑n)), (2, xi (x - (↑n)))]) (st' := []) rfl ?_
        refine ex_st 3 (pc' := 87) (ls' := [(0, xr 143), (1, xi (↑n)), (2, xi (x - (↑n)))]) (st' := [xi (x - (↑n)), xi (↑n), xr 143]) rfl ?_
        refine ex_inl (M' := xM_m_officialLooks) (as := [xr 143, xi (↑n), xi (x - (↑n))]) (rest := []) (D' := 25) rfl (Nat.le_of_ble_eq_true rfl) (by decide) rfl ⟨rfl, rfl, rfl⟩ ⟨Nat.le_of_ble_eq_true rfl, rfl, rfl⟩ (Nat.le_of_ble_eq_true rfl) rfl ?_
        refine ex_st 2 (pc' := 3) (ls' := [(0, xr 143), (1, xi (↑n)), (2, xi (x - (↑n)))]) (st' := [xi 11, xr 143]) rfl ?_
        refine ex_call (ct_m_body (b := 11) (by decide)) (by decide) rfl ⟨rfl, rfl, rfl⟩ ⟨Nat.le_of_ble_eq_true rfl, rfl, rfl⟩ (Nat.le_of_ble_eq_true rfl) rfl ?_
        refine ex_st 3 (pc' := 9) (ls' := [(0, xr 143), (1, xi (↑n)), (2, xi (x - (↑n)))]) (st' := [xi (x - (↑n)), xi (↑n), xr 143]) rfl ?_
        refine ex_inl (M' := xM_m_clucksAct) (as := [xr 143, xi (↑n), xi (x - (↑n))]) (rest := []) (D' := 24) rfl (Nat.le_of_ble_eq_true rfl) (by decide) rfl ⟨rfl, rfl, rfl⟩ ⟨Nat.le_of_ble_eq_true rfl, rfl, rfl⟩ (Nat.le_of_ble_eq_true rfl) rfl ?_
        refine ex_st 3 (pc' := 5) (ls' := [(0, xr 143), (1, xi (↑n)), (2, xi (x - (↑n)))]) (st' := [xi (↑n), xr 144]) rfl ?_
        refine ex_iald (j := n) rfl (by decide) (rfl : xSH[144]? = some _) (by omega) (by omega) (by decide) ?_
        rw [wM_f (by omega), wC_f (by omega), aJ_f (by omega), hq]
        refine ex_st 1 (pc' := 40) (ls' := [(0, xr 143), (1, xi (↑n)), (2, xi (x - (↑n)))]) (st' := []) rfl ?_
        refine ex_st 2 (pc' := 43) (ls' := [(0, xr 143), (1, xi (↑n)), (2, xi (x - (↑n)))]) (st' := [xi 30, xr 143]) rfl ?_
        refine ex_call (ct_m_body (b := 30) (by decide)) (by decide) rfl ⟨rfl, rfl, rfl⟩ ⟨Nat.le_of_ble_eq_true rfl, rfl, rfl⟩ (Nat.le_of_ble_eq_true rfl) rfl ?_
        refine ex_st 5 (pc' := 51) (ls' := [(0, xr 143), (1, xi (↑n)), (2, xi (x - (↑n)))]) (st' := [xi ((x - (↑n)) * 3), xi (↑n), xr 143]) rfl ?_
        refine ex_inl (M' := xM_m_officialClucks) (as := [xr 143, xi (↑n), xi ((x - (↑n)) * 3)]) (rest := []) (D' := 23) rfl (Nat.le_of_ble_eq_true rfl) (by decide) rfl ⟨rfl, rfl, rfl⟩ ⟨Nat.le_of_ble_eq_true rfl, rfl, rfl⟩ (Nat.le_of_ble_eq_true rfl) rfl ?_
        refine ex_st 2 (pc' := 3) (ls' := [(0, xr 143), (1, xi (↑n)), (2, xi ((x - (↑n)) * 3))]) (st' := [xi 10, xr 143]) rfl ?_
        refine ex_call (ct_m_body (b := 10) (by decide)) (by decide) rfl ⟨rfl, rfl, rfl⟩ ⟨Nat.le_of_ble_eq_true rfl, rfl, rfl⟩ (Nat.le_of_ble_eq_true rfl) rfl ?_
        refine ex_st 3 (pc' := 9) (ls' := [(0, xr 143), (1, xi (↑n)), (2, xi ((x - (↑n)) * 3))]) (st' := [xi (((x - (↑n)) * 3) + (↑n))]) rfl ?_
        refine ex_reti rfl rfl ?_
        refine ex_reti rfl rfl ?_
        refine ex_st 3 (pc' := 17) (ls' := [(0, xr 143), (1, xi (↑n)), (2, xi (x - (↑n)))]) (st' := [xi (↑n), xr 145, xi (((x - (↑n)) * 3) + (↑n))]) rfl ?_
        refine ex_iald (j := n) rfl (by decide) (rfl : xSH[145]? = some _) (by omega) (by omega) (by decide) ?_
        rw [wM_f (by omega), wC_f (by omega), aJ_f (by omega)]
        refine ex_st 1 (pc' := 19) (ls' := [(0, xr 143), (1, xi (↑n)), (2, xi (x - (↑n)))]) (st' := [xi ((((x - (↑n)) * 3) + (↑n)) - (I 145 n))]) rfl ?_
        refine ex_reti rfl rfl ?_
        refine ex_reti rfl rfl ?_
        refine ex_st 2 (pc' := 14) (ls' := [(0, xr 143), (1, xi (↑n)), (2, xi (x - (↑n)))]) (st' := [xi (((((x - (↑n)) * 3) + (↑n)) - (I 145 n)) * 2)]) rfl ?_
        refine ex_reti rfl rfl ?_
        refine ex_reti rfl rfl ?_
        refine ex_reti rfl rfl ?_
        exact ⟨x_req (by first | rfl | omega | (congr 1; omega)), _, _, rfl, Rl.act hR (by decide)⟩
      · exfalso; omega
set_option maxRecDepth 8000 in
set_option maxHeartbeats 4000000 in
theorem op_act_6_0 {sc : List Int} {I : Nat → Nat → Int} {L : Nat → Nat → Int64} (hR : Rl I L) {n : Nat} {x : Int} (hv : (n : Int) < I 1 1) (hq : I 144 n = 6) : x_PQ sc xN_G_act [xr 0, xi (↑n), xi 0, xi x] xN_m_act [xr 143, xi (↑n), xi 0, xi x] (xSH, I, L) := by
  obtain ⟨⟨hNs, hNo, hNa, hNb, hNr, hNd, hNg, hNe, hNp, hNk⟩, hI, hT, hX, hC, hH, hQ⟩ := id hR
  have hs := hNs
  unfold RNs at hs
  have ho := hNo n (by omega)
  have hq2 : I (11 + 3 * n) 0 = 6 := by omega
  refine x_CQ.of (M := xM_G_act) rfl (Nat.le_of_ble_eq_true rfl) ?_
  refine ex_st 2 (pc' := 2) (ls' := [(0, xr 0), (1, xi (↑n)), (2, xi 0), (3, xi x)]) (st' := [xi (↑n), xr 0]) rfl ?_
  refine ex_call (ct_G_isOfficial2 (c := I 1 1) (by first | omega | (constructor <;> omega) | assumption | ((repeat rw [x_up_far (by omega)]); first | rfl | omega | (constructor <;> omega))) (by (repeat rw [x_up_far (by omega)]); try rfl) (by first | omega | (constructor <;> omega) | assumption | ((repeat rw [x_up_far (by omega)]); first | rfl | omega | (constructor <;> omega)))) (by decide) rfl ⟨rfl, rfl, rfl⟩ ⟨Nat.le_of_ble_eq_true rfl, rfl, rfl⟩ (Nat.le_of_ble_eq_true rfl) rfl ?_
  refine ex_beq rfl (fun h0 => ?_) (fun h0 => ?_)
  · exfalso; omega
  · refine ex_st 1 (pc' := 9) (ls' := [(0, xr 0), (1, xi (↑n)), (2, xi 0), (3, xi x)]) (st' := [xi 0]) rfl ?_
    refine ex_st 1 (pc' := 12) (ls' := [(0, xr 0), (1, xi (↑n)), (2, xi 0), (3, xi x)]) (st' := []) rfl ?_
    refine ex_st 2 (pc' := 14) (ls' := [(0, xr 0), (1, xi (↑n)), (2, xi 0), (3, xi x)]) (st' := [xi 2, xi 0]) rfl ?_
    refine ex_st 1 (pc' := 27) (ls' := [(0, xr 0), (1, xi (↑n)), (2, xi 0), (3, xi x)]) (st' := []) rfl ?_
    refine ex_st 4 (pc' := 35) (ls' := [(0, xr 0), (1, xi (↑n)), (2, xi 0), (3, xi x)]) (st' := [xi (↑n), xr 2]) rfl ?_
    refine ex_aald (q := 11 + 3 * n) (j := n) rfl (by decide) (rfl : xSH[2]? = some _) (by decide) (by omega) (by omega) (by decide) (x_aa2 n (by omega)) (by omega) ?_
    refine ex_st 7 (pc' := 47) (ls' := [(4, xr (11 + 3 * n)), (0, xr 0), (1, xi (↑n)), (2, xi 0), (3, xi x)]) (st' := [xi x, xr (11 + 3 * n), xi (↑n), xi 0, xr 104]) rfl ?_
    refine ex_call (ct_A_begin_6_0 (L := L) (n := n) (x := x) (v := I 145 n) (by omega) hq2 ho.2.2.2.1) (by decide) rfl ⟨rfl, rfl, rfl⟩ ⟨Nat.le_of_ble_eq_true rfl, rfl, rfl⟩ (Nat.le_of_ble_eq_true rfl) rfl ?_
    refine ex_reti rfl rfl ?_
    refine x_CQ.of (M := xM_m_act) rfl (Nat.le_of_ble_eq_true rfl) ?_
    refine ex_st 2 (pc' := 2) (ls' := [(0, xr 143), (1, xi (↑n)), (2, xi 0), (3, xi x)]) (st' := [xi 0, xr 143]) rfl ?_
    refine ex_pfi rfl (by decide) (rfl : xSH[143]? = some _) (by decide) rfl (by decide) (fun h => by cases h) ?_
    rw [wM_beg]
    refine ex_st 2 (pc' := 7) (ls' := [(0, xr 143), (1, xi (↑n)), (2, xi 0), (3, xi x)]) (st' := [xi (↑n), xr 143]) rfl ?_
    refine ex_call (ct_m_isOfficial2 (c := I 143 0) (by constructor <;> omega) (by rw [wM_f (by omega), wC_f (by omega), aJ_f (by omega)]) (by omega)) (by decide) rfl ⟨rfl, rfl, rfl⟩ ⟨Nat.le_of_ble_eq_true rfl, rfl, rfl⟩ (Nat.le_of_ble_eq_true rfl) rfl ?_
    refine ex_beq rfl (fun h1 => ?_) (fun h1 => ?_)
    · exfalso; omega
    · refine ex_st 4 (pc' := 17) (ls' := [(0, xr 143), (1, xi (↑n)), (2, xi 0), (3, xi x)]) (st' := [xi 2, xi 0, xi 0, xr 143]) rfl ?_
      refine ex_call (ct_m_in (by first | omega | (constructor <;> omega) | assumption) (by first | omega | (constructor <;> omega) | assumption) (by first | omega | (constructor <;> omega) | assumption)) (by decide) rfl ⟨rfl, rfl, rfl⟩ ⟨Nat.le_of_ble_eq_true rfl, rfl, rfl⟩ (Nat.le_of_ble_eq_true rfl) rfl ?_
      refine ex_bne rfl (fun h2 => ?_) (fun h2 => ?_)
      · refine ex_st 1 (pc' := 26) (ls' := [(0, xr 143), (1, xi (↑n)), (2, xi 0), (3, xi x)]) (st' := [xi 0]) rfl ?_
        refine ex_st 1 (pc' := 29) (ls' := [(0, xr 143), (1, xi (↑n)), (2, xi 0), (3, xi x)]) (st' := []) rfl ?_
        refine ex_st 3 (pc' := 32) (ls' := [(0, xr 143), (1, xi (↑n)), (2, xi 0), (3, xi x)]) (st' := [xi x, xi (↑n), xr 143]) rfl ?_
        refine ex_inl (M' := xM_m_clucksAct) (as := [xr 143, xi (↑n), xi x]) (rest := []) (D' := 28) rfl (Nat.le_of_ble_eq_true rfl) (by decide) rfl ⟨rfl, rfl, rfl⟩ ⟨Nat.le_of_ble_eq_true rfl, rfl, rfl⟩ (Nat.le_of_ble_eq_true rfl) rfl ?_
        refine ex_st 3 (pc' := 5) (ls' := [(0, xr 143), (1, xi (↑n)), (2, xi x)]) (st' := [xi (↑n), xr 144]) rfl ?_
        refine ex_iald (j := n) rfl (by decide) (rfl : xSH[144]? = some _) (by omega) (by omega) (by decide) ?_
        rw [wM_f (by omega), wC_f (by omega), aJ_f (by omega), hq]
        refine ex_st 1 (pc' := 69) (ls' := [(0, xr 143), (1, xi (↑n)), (2, xi x)]) (st' := []) rfl ?_
        refine ex_st 2 (pc' := 72) (ls' := [(0, xr 143), (1, xi (↑n)), (2, xi x)]) (st' := [xi 71, xr 143]) rfl ?_
        refine ex_call (ct_m_body (b := 71) (by decide)) (by decide) rfl ⟨rfl, rfl, rfl⟩ ⟨Nat.le_of_ble_eq_true rfl, rfl, rfl⟩ (Nat.le_of_ble_eq_true rfl) rfl ?_
        refine ex_st 3 (pc' := 78) (ls' := [(0, xr 143), (1, xi (↑n)), (2, xi x)]) (st' := [xi x, xi (↑n), xr 143]) rfl ?_
        refine ex_inl (M' := xM_m_officialClucks) (as := [xr 143, xi (↑n), xi x]) (rest := []) (D' := 27) rfl (Nat.le_of_ble_eq_true rfl) (by decide) rfl ⟨rfl, rfl, rfl⟩ ⟨Nat.le_of_ble_eq_true rfl, rfl, rfl⟩ (Nat.le_of_ble_eq_true rfl) rfl ?_
        refine ex_st 2 (pc' := 3) (ls' := [(0, xr 143), (1, xi (↑n)), (2, xi x)]) (st' := [xi 10, xr 143]) rfl ?_
        refine ex_call (ct_m_body (b := 10) (by decide)) (by decide) rfl ⟨rfl, rfl, rfl⟩ ⟨Nat.le_of_ble_eq_true rfl, rfl, rfl⟩ (Nat.le_of_ble_eq_true rfl) rfl ?_
        refine ex_st 3 (pc' := 9) (ls' := [(0, xr 143), (1, xi (↑n)), (2, xi x)]) (st' := [xi (x + (↑n))]) rfl ?_
        refine ex_reti rfl rfl ?_
        refine ex_st 3 (pc' := 86) (ls' := [(0, xr 143), (1, xi (↑n)), (2, xi x)]) (st' := [xi (↑n), xr 145, xi (x + (↑n))]) rfl ?_
        refine ex_iald (j := n) rfl (by decide) (rfl : xSH[145]? = some _) (by omega) (by omega) (by decide) ?_
        rw [wM_f (by omega), wC_f (by omega), aJ_f (by omega)]
        refine ex_ixor rfl ?_
        generalize hzx1 : z_xor (x + (↑n)) (I 145 n) = zx1
        refine ex_reti rfl rfl ?_
        refine ex_st 1 (pc' := 58) (ls' := [(0, xr 143), (1, xi (↑n)), (2, xi 0), (3, xi x)]) (st' := [xi zx1]) rfl ?_
        refine ex_reti rfl rfl ?_
        subst hzx1
        exact ⟨x_req (by first | rfl | omega | (congr 1; omega)), _, _, rfl, Rl.act hR (by decide)⟩
      · exfalso; omega
set_option maxRecDepth 8000 in
set_option maxHeartbeats 4000000 in
theorem op_act_6_1 {sc : List Int} {I : Nat → Nat → Int} {L : Nat → Nat → Int64} (hR : Rl I L) {n : Nat} {x : Int} (hv : (n : Int) < I 1 1) (hq : I 144 n = 6) : x_PQ sc xN_G_act [xr 0, xi (↑n), xi 1, xi x] xN_m_act [xr 143, xi (↑n), xi 1, xi x] (xSH, I, L) := by
  obtain ⟨⟨hNs, hNo, hNa, hNb, hNr, hNd, hNg, hNe, hNp, hNk⟩, hI, hT, hX, hC, hH, hQ⟩ := id hR
  have hs := hNs
  unfold RNs at hs
  have ho := hNo n (by omega)
  have hq2 : I (11 + 3 * n) 0 = 6 := by omega
  refine x_CQ.of (M := xM_G_act) rfl (Nat.le_of_ble_eq_true rfl) ?_
  refine ex_st 2 (pc' := 2) (ls' := [(0, xr 0), (1, xi (↑n)), (2, xi 1), (3, xi x)]) (st' := [xi (↑n), xr 0]) rfl ?_
  refine ex_call (ct_G_isOfficial2 (c := I 1 1) (by first | omega | (constructor <;> omega) | assumption | ((repeat rw [x_up_far (by omega)]); first | rfl | omega | (constructor <;> omega))) (by (repeat rw [x_up_far (by omega)]); try rfl) (by first | omega | (constructor <;> omega) | assumption | ((repeat rw [x_up_far (by omega)]); first | rfl | omega | (constructor <;> omega)))) (by decide) rfl ⟨rfl, rfl, rfl⟩ ⟨Nat.le_of_ble_eq_true rfl, rfl, rfl⟩ (Nat.le_of_ble_eq_true rfl) rfl ?_
  refine ex_beq rfl (fun h0 => ?_) (fun h0 => ?_)
  · exfalso; omega
  · refine ex_st 1 (pc' := 9) (ls' := [(0, xr 0), (1, xi (↑n)), (2, xi 1), (3, xi x)]) (st' := [xi 1]) rfl ?_
    refine ex_st 1 (pc' := 12) (ls' := [(0, xr 0), (1, xi (↑n)), (2, xi 1), (3, xi x)]) (st' := []) rfl ?_
    refine ex_st 2 (pc' := 14) (ls' := [(0, xr 0), (1, xi (↑n)), (2, xi 1), (3, xi x)]) (st' := [xi 2, xi 1]) rfl ?_
    refine ex_st 1 (pc' := 27) (ls' := [(0, xr 0), (1, xi (↑n)), (2, xi 1), (3, xi x)]) (st' := []) rfl ?_
    refine ex_st 4 (pc' := 35) (ls' := [(0, xr 0), (1, xi (↑n)), (2, xi 1), (3, xi x)]) (st' := [xi (↑n), xr 2]) rfl ?_
    refine ex_aald (q := 11 + 3 * n) (j := n) rfl (by decide) (rfl : xSH[2]? = some _) (by decide) (by omega) (by omega) (by decide) (x_aa2 n (by omega)) (by omega) ?_
    refine ex_st 7 (pc' := 47) (ls' := [(4, xr (11 + 3 * n)), (0, xr 0), (1, xi (↑n)), (2, xi 1), (3, xi x)]) (st' := [xi x, xr (11 + 3 * n), xi (↑n), xi 1, xr 104]) rfl ?_
    refine ex_call (ct_A_begin_6_1 (L := L) (n := n) (x := x) (v := I 145 n) (by omega) hq2 ho.2.2.2.1) (by decide) rfl ⟨rfl, rfl, rfl⟩ ⟨Nat.le_of_ble_eq_true rfl, rfl, rfl⟩ (Nat.le_of_ble_eq_true rfl) rfl ?_
    refine ex_reti rfl rfl ?_
    refine x_CQ.of (M := xM_m_act) rfl (Nat.le_of_ble_eq_true rfl) ?_
    refine ex_st 2 (pc' := 2) (ls' := [(0, xr 143), (1, xi (↑n)), (2, xi 1), (3, xi x)]) (st' := [xi 0, xr 143]) rfl ?_
    refine ex_pfi rfl (by decide) (rfl : xSH[143]? = some _) (by decide) rfl (by decide) (fun h => by cases h) ?_
    rw [wM_beg]
    refine ex_st 2 (pc' := 7) (ls' := [(0, xr 143), (1, xi (↑n)), (2, xi 1), (3, xi x)]) (st' := [xi (↑n), xr 143]) rfl ?_
    refine ex_call (ct_m_isOfficial2 (c := I 143 0) (by constructor <;> omega) (by rw [wM_f (by omega), wC_f (by omega), aJ_f (by omega)]) (by omega)) (by decide) rfl ⟨rfl, rfl, rfl⟩ ⟨Nat.le_of_ble_eq_true rfl, rfl, rfl⟩ (Nat.le_of_ble_eq_true rfl) rfl ?_
    refine ex_beq rfl (fun h1 => ?_) (fun h1 => ?_)
    · exfalso; omega
    · refine ex_st 4 (pc' := 17) (ls' := [(0, xr 143), (1, xi (↑n)), (2, xi 1), (3, xi x)]) (st' := [xi 2, xi 0, xi 1, xr 143]) rfl ?_
      refine ex_call (ct_m_in (by first | omega | (constructor <;> omega) | assumption) (by first | omega | (constructor <;> omega) | assumption) (by first | omega | (constructor <;> omega) | assumption)) (by decide) rfl ⟨rfl, rfl, rfl⟩ ⟨Nat.le_of_ble_eq_true rfl, rfl, rfl⟩ (Nat.le_of_ble_eq_true rfl) rfl ?_
      refine ex_bne rfl (fun h2 => ?_) (fun h2 => ?_)
      · refine ex_st 1 (pc' := 26) (ls' := [(0, xr 143), (1, xi (↑n)), (2, xi 1), (3, xi x)]) (st' := [xi 1]) rfl ?_
        refine ex_st 1 (pc' := 38) (ls' := [(0, xr 143), (1, xi (↑n)), (2, xi 1), (3, xi x)]) (st' := []) rfl ?_
        refine ex_st 2 (pc' := 40) (ls' := [(0, xr 143), (1, xi (↑n)), (2, xi 1), (3, xi x)]) (st' := [xi 1, xi 1]) rfl ?_
        refine ex_st 1 (pc' := 43) (ls' := [(0, xr 143), (1, xi (↑n)), (2, xi 1), (3, xi x)]) (st' := []) rfl ?_
        refine ex_st 3 (pc' := 46) (ls' := [(0, xr 143), (1, xi (↑n)), (2, xi 1), (3, xi x)]) (st' := [xi x, xi (↑n), xr 143]) rfl ?_
        refine ex_inl (M' := xM_m_looksAct) (as := [xr 143, xi (↑n), xi x]) (rest := []) (D' := 28) rfl (Nat.le_of_ble_eq_true rfl) (by decide) rfl ⟨rfl, rfl, rfl⟩ ⟨Nat.le_of_ble_eq_true rfl, rfl, rfl⟩ (Nat.le_of_ble_eq_true rfl) rfl ?_
        refine ex_st 3 (pc' := 5) (ls' := [(0, xr 143), (1, xi (↑n)), (2, xi x)]) (st' := [xi (↑n), xr 144]) rfl ?_
        refine ex_iald (j := n) rfl (by decide) (rfl : xSH[144]? = some _) (by omega) (by omega) (by decide) ?_
        rw [wM_f (by omega), wC_f (by omega), aJ_f (by omega), hq]
        refine ex_st 1 (pc' := 62) (ls' := [(0, xr 143), (1, xi (↑n)), (2, xi x)]) (st' := []) rfl ?_
        refine ex_st 2 (pc' := 65) (ls' := [(0, xr 143), (1, xi (↑n)), (2, xi x)]) (st' := [xi 70, xr 143]) rfl ?_
        refine ex_call (ct_m_body (b := 70) (by decide)) (by decide) rfl ⟨rfl, rfl, rfl⟩ ⟨Nat.le_of_ble_eq_true rfl, rfl, rfl⟩ (Nat.le_of_ble_eq_true rfl) rfl ?_
        refine ex_st 3 (pc' := 71) (ls' := [(0, xr 143), (1, xi (↑n)), (2, xi x)]) (st' := [xi x, xi (↑n), xr 143]) rfl ?_
        refine ex_inl (M' := xM_m_officialLooks) (as := [xr 143, xi (↑n), xi x]) (rest := []) (D' := 27) rfl (Nat.le_of_ble_eq_true rfl) (by decide) rfl ⟨rfl, rfl, rfl⟩ ⟨Nat.le_of_ble_eq_true rfl, rfl, rfl⟩ (Nat.le_of_ble_eq_true rfl) rfl ?_
        refine ex_st 2 (pc' := 3) (ls' := [(0, xr 143), (1, xi (↑n)), (2, xi x)]) (st' := [xi 11, xr 143]) rfl ?_
        refine ex_call (ct_m_body (b := 11) (by decide)) (by decide) rfl ⟨rfl, rfl, rfl⟩ ⟨Nat.le_of_ble_eq_true rfl, rfl, rfl⟩ (Nat.le_of_ble_eq_true rfl) rfl ?_
        refine ex_st 3 (pc' := 9) (ls' := [(0, xr 143), (1, xi (↑n)), (2, xi x)]) (st' := [xi x, xi (↑n), xr 143]) rfl ?_
        refine ex_inl (M' := xM_m_clucksAct) (as := [xr 143, xi (↑n), xi x]) (rest := []) (D' := 26) rfl (Nat.le_of_ble_eq_true rfl) (by decide) rfl ⟨rfl, rfl, rfl⟩ ⟨Nat.le_of_ble_eq_true rfl, rfl, rfl⟩ (Nat.le_of_ble_eq_true rfl) rfl ?_
        refine ex_st 3 (pc' := 5) (ls' := [(0, xr 143), (1, xi (↑n)), (2, xi x)]) (st' := [xi (↑n), xr 144]) rfl ?_
        refine ex_iald (j := n) rfl (by decide) (rfl : xSH[144]? = some _) (by omega) (by omega) (by decide) ?_
        rw [wM_f (by omega), wC_f (by omega), aJ_f (by omega), hq]
        refine ex_st 1 (pc' := 69) (ls' := [(0, xr 143), (1, xi (↑n)), (2, xi x)]) (st' := []) rfl ?_
        refine ex_st 2 (pc' := 72) (ls' := [(0, xr 143), (1, xi (↑n)), (2, xi x)]) (st' := [xi 71, xr 143]) rfl ?_
        refine ex_call (ct_m_body (b := 71) (by decide)) (by decide) rfl ⟨rfl, rfl, rfl⟩ ⟨Nat.le_of_ble_eq_true rfl, rfl, rfl⟩ (Nat.le_of_ble_eq_true rfl) rfl ?_
        refine ex_st 3 (pc' := 78) (ls' := [(0, xr 143), (1, xi (↑n)), (2, xi x)]) (st' := [xi x, xi (↑n), xr 143]) rfl ?_
        refine ex_inl (M' := xM_m_officialClucks) (as := [xr 143, xi (↑n), xi x]) (rest := []) (D' := 25) rfl (Nat.le_of_ble_eq_true rfl) (by decide) rfl ⟨rfl, rfl, rfl⟩ ⟨Nat.le_of_ble_eq_true rfl, rfl, rfl⟩ (Nat.le_of_ble_eq_true rfl) rfl ?_
        refine ex_st 2 (pc' := 3) (ls' := [(0, xr 143), (1, xi (↑n)), (2, xi x)]) (st' := [xi 10, xr 143]) rfl ?_
        refine ex_call (ct_m_body (b := 10) (by decide)) (by decide) rfl ⟨rfl, rfl, rfl⟩ ⟨Nat.le_of_ble_eq_true rfl, rfl, rfl⟩ (Nat.le_of_ble_eq_true rfl) rfl ?_
        refine ex_st 3 (pc' := 9) (ls' := [(0, xr 143), (1, xi (↑n)), (2, xi x)]) (st' := [xi (x + (↑n))]) rfl ?_
        refine ex_reti rfl rfl ?_
        refine ex_st 3 (pc' := 86) (ls' := [(0, xr 143), (1, xi (↑n)), (2, xi x)]) (st' := [xi (↑n), xr 145, xi (x + (↑n))]) rfl ?_
        refine ex_iald (j := n) rfl (by decide) (rfl : xSH[145]? = some _) (by omega) (by omega) (by decide) ?_
        rw [wM_f (by omega), wC_f (by omega), aJ_f (by omega)]
        refine ex_ixor rfl ?_
        generalize hzx1 : z_xor (x + (↑n)) (I 145 n) = zx1
        refine ex_reti rfl rfl ?_
        refine ex_st 3 (pc' := 17) (ls' := [(0, xr 143), (1, xi (↑n)), (2, xi x)]) (st' := [xi (↑n), xr 145, xi zx1]) rfl ?_
        refine ex_iald (j := n) rfl (by decide) (rfl : xSH[145]? = some _) (by omega) (by omega) (by decide) ?_
        rw [wM_f (by omega), wC_f (by omega), aJ_f (by omega)]
        refine ex_st 1 (pc' := 19) (ls' := [(0, xr 143), (1, xi (↑n)), (2, xi x)]) (st' := [xi (zx1 - (I 145 n))]) rfl ?_
        refine ex_reti rfl rfl ?_
        refine ex_st 5 (pc' := 79) (ls' := [(3, xi (zx1 - (I 145 n))), (0, xr 143), (1, xi (↑n)), (2, xi x)]) (st' := [xi 2, xi (↑n), xr 143, xi (zx1 - (I 145 n))]) rfl ?_
        refine ex_inl (M' := xM_m_officialClucks) (as := [xr 143, xi (↑n), xi 2]) (rest := [xi (zx1 - (I 145 n))]) (D' := 27) rfl (Nat.le_of_ble_eq_true rfl) (by decide) rfl ⟨rfl, rfl, rfl⟩ ⟨Nat.le_of_ble_eq_true rfl, rfl, rfl⟩ (Nat.le_of_ble_eq_true rfl) rfl ?_
        refine ex_st 2 (pc' := 3) (ls' := [(0, xr 143), (1, xi (↑n)), (2, xi 2)]) (st' := [xi 10, xr 143]) rfl ?_
        refine ex_call (ct_m_body (b := 10) (by decide)) (by decide) rfl ⟨rfl, rfl, rfl⟩ ⟨Nat.le_of_ble_eq_true rfl, rfl, rfl⟩ (Nat.le_of_ble_eq_true rfl) rfl ?_
        refine ex_st 3 (pc' := 9) (ls' := [(0, xr 143), (1, xi (↑n)), (2, xi 2)]) (st' := [xi (2 + (↑n))]) rfl ?_
        refine ex_reti rfl rfl ?_
        refine ex_st 1 (pc' := 83) (ls' := [(3, xi (zx1 - (I 145 n))), (0, xr 143), (1, xi (↑n)), (2, xi x)]) (st' := [xi ((zx1 - (I 145 n)) + (2 + (↑n)))]) rfl ?_
        refine ex_reti rfl rfl ?_
        refine ex_st 1 (pc' := 58) (ls' := [(0, xr 143), (1, xi (↑n)), (2, xi 1), (3, xi x)]) (st' := [xi ((zx1 - (I 145 n)) + (2 + (↑n)))]) rfl ?_
        refine ex_reti rfl rfl ?_
        subst hzx1
        exact ⟨x_req (by first | rfl | omega | (congr 1; omega)), _, _, rfl, Rl.act hR (by decide)⟩
      · exfalso; omega
set_option maxRecDepth 8000 in
set_option maxHeartbeats 4000000 in
theorem op_act_6_2 {sc : List Int} {I : Nat → Nat → Int} {L : Nat → Nat → Int64} (hR : Rl I L) {n : Nat} {x : Int} (hv : (n : Int) < I 1 1) (hq : I 144 n = 6) : x_PQ sc xN_G_act [xr 0, xi (↑n), xi 2, xi x] xN_m_act [xr 143, xi (↑n), xi 2, xi x] (xSH, I, L) := by
  obtain ⟨⟨hNs, hNo, hNa, hNb, hNr, hNd, hNg, hNe, hNp, hNk⟩, hI, hT, hX, hC, hH, hQ⟩ := id hR
  have hs := hNs
  unfold RNs at hs
  have ho := hNo n (by omega)
  have hq2 : I (11 + 3 * n) 0 = 6 := by omega
  refine x_CQ.of (M := xM_G_act) rfl (Nat.le_of_ble_eq_true rfl) ?_
  refine ex_st 2 (pc' := 2) (ls' := [(0, xr 0), (1, xi (↑n)), (2, xi 2), (3, xi x)]) (st' := [xi (↑n), xr 0]) rfl ?_
  refine ex_call (ct_G_isOfficial2 (c := I 1 1) (by first | omega | (constructor <;> omega) | assumption | ((repeat rw [x_up_far (by omega)]); first | rfl | omega | (constructor <;> omega))) (by (repeat rw [x_up_far (by omega)]); try rfl) (by first | omega | (constructor <;> omega) | assumption | ((repeat rw [x_up_far (by omega)]); first | rfl | omega | (constructor <;> omega)))) (by decide) rfl ⟨rfl, rfl, rfl⟩ ⟨Nat.le_of_ble_eq_true rfl, rfl, rfl⟩ (Nat.le_of_ble_eq_true rfl) rfl ?_
  refine ex_beq rfl (fun h0 => ?_) (fun h0 => ?_)
  · exfalso; omega
  · refine ex_st 1 (pc' := 9) (ls' := [(0, xr 0), (1, xi (↑n)), (2, xi 2), (3, xi x)]) (st' := [xi 2]) rfl ?_
    refine ex_st 1 (pc' := 12) (ls' := [(0, xr 0), (1, xi (↑n)), (2, xi 2), (3, xi x)]) (st' := []) rfl ?_
    refine ex_st 2 (pc' := 14) (ls' := [(0, xr 0), (1, xi (↑n)), (2, xi 2), (3, xi x)]) (st' := [xi 2, xi 2]) rfl ?_
    refine ex_st 1 (pc' := 27) (ls' := [(0, xr 0), (1, xi (↑n)), (2, xi 2), (3, xi x)]) (st' := []) rfl ?_
    refine ex_st 4 (pc' := 35) (ls' := [(0, xr 0), (1, xi (↑n)), (2, xi 2), (3, xi x)]) (st' := [xi (↑n), xr 2]) rfl ?_
    refine ex_aald (q := 11 + 3 * n) (j := n) rfl (by decide) (rfl : xSH[2]? = some _) (by decide) (by omega) (by omega) (by decide) (x_aa2 n (by omega)) (by omega) ?_
    refine ex_st 7 (pc' := 47) (ls' := [(4, xr (11 + 3 * n)), (0, xr 0), (1, xi (↑n)), (2, xi 2), (3, xi x)]) (st' := [xi x, xr (11 + 3 * n), xi (↑n), xi 2, xr 104]) rfl ?_
    refine ex_call (ct_A_begin_6_2 (L := L) (n := n) (x := x) (v := I 145 n) (by omega) hq2 ho.2.2.2.1) (by decide) rfl ⟨rfl, rfl, rfl⟩ ⟨Nat.le_of_ble_eq_true rfl, rfl, rfl⟩ (Nat.le_of_ble_eq_true rfl) rfl ?_
    refine ex_reti rfl rfl ?_
    refine x_CQ.of (M := xM_m_act) rfl (Nat.le_of_ble_eq_true rfl) ?_
    refine ex_st 2 (pc' := 2) (ls' := [(0, xr 143), (1, xi (↑n)), (2, xi 2), (3, xi x)]) (st' := [xi 0, xr 143]) rfl ?_
    refine ex_pfi rfl (by decide) (rfl : xSH[143]? = some _) (by decide) rfl (by decide) (fun h => by cases h) ?_
    rw [wM_beg]
    refine ex_st 2 (pc' := 7) (ls' := [(0, xr 143), (1, xi (↑n)), (2, xi 2), (3, xi x)]) (st' := [xi (↑n), xr 143]) rfl ?_
    refine ex_call (ct_m_isOfficial2 (c := I 143 0) (by constructor <;> omega) (by rw [wM_f (by omega), wC_f (by omega), aJ_f (by omega)]) (by omega)) (by decide) rfl ⟨rfl, rfl, rfl⟩ ⟨Nat.le_of_ble_eq_true rfl, rfl, rfl⟩ (Nat.le_of_ble_eq_true rfl) rfl ?_
    refine ex_beq rfl (fun h1 => ?_) (fun h1 => ?_)
    · exfalso; omega
    · refine ex_st 4 (pc' := 17) (ls' := [(0, xr 143), (1, xi (↑n)), (2, xi 2), (3, xi x)]) (st' := [xi 2, xi 0, xi 2, xr 143]) rfl ?_
      refine ex_call (ct_m_in (by first | omega | (constructor <;> omega) | assumption) (by first | omega | (constructor <;> omega) | assumption) (by first | omega | (constructor <;> omega) | assumption)) (by decide) rfl ⟨rfl, rfl, rfl⟩ ⟨Nat.le_of_ble_eq_true rfl, rfl, rfl⟩ (Nat.le_of_ble_eq_true rfl) rfl ?_
      refine ex_bne rfl (fun h2 => ?_) (fun h2 => ?_)
      · refine ex_st 1 (pc' := 26) (ls' := [(0, xr 143), (1, xi (↑n)), (2, xi 2), (3, xi x)]) (st' := [xi 2]) rfl ?_
        refine ex_st 1 (pc' := 38) (ls' := [(0, xr 143), (1, xi (↑n)), (2, xi 2), (3, xi x)]) (st' := []) rfl ?_
        refine ex_st 2 (pc' := 40) (ls' := [(0, xr 143), (1, xi (↑n)), (2, xi 2), (3, xi x)]) (st' := [xi 1, xi 2]) rfl ?_
        refine ex_st 1 (pc' := 52) (ls' := [(0, xr 143), (1, xi (↑n)), (2, xi 2), (3, xi x)]) (st' := []) rfl ?_
        refine ex_st 3 (pc' := 55) (ls' := [(0, xr 143), (1, xi (↑n)), (2, xi 2), (3, xi x)]) (st' := [xi x, xi (↑n), xr 143]) rfl ?_
        refine ex_inl (M' := xM_m_tellsAct) (as := [xr 143, xi (↑n), xi x]) (rest := []) (D' := 28) rfl (Nat.le_of_ble_eq_true rfl) (by decide) rfl ⟨rfl, rfl, rfl⟩ ⟨Nat.le_of_ble_eq_true rfl, rfl, rfl⟩ (Nat.le_of_ble_eq_true rfl) rfl ?_
        refine ex_st 3 (pc' := 5) (ls' := [(0, xr 143), (1, xi (↑n)), (2, xi x)]) (st' := [xi (↑n), xr 144]) rfl ?_
        refine ex_iald (j := n) rfl (by decide) (rfl : xSH[144]? = some _) (by omega) (by omega) (by decide) ?_
        rw [wM_f (by omega), wC_f (by omega), aJ_f (by omega), hq]
        refine ex_st 1 (pc' := 36) (ls' := [(0, xr 143), (1, xi (↑n)), (2, xi x)]) (st' := []) rfl ?_
        refine ex_st 2 (pc' := 39) (ls' := [(0, xr 143), (1, xi (↑n)), (2, xi x)]) (st' := [xi 40, xr 143]) rfl ?_
        refine ex_call (ct_m_body (b := 40) (by decide)) (by decide) rfl ⟨rfl, rfl, rfl⟩ ⟨Nat.le_of_ble_eq_true rfl, rfl, rfl⟩ (Nat.le_of_ble_eq_true rfl) rfl ?_
        refine ex_st 3 (pc' := 45) (ls' := [(0, xr 143), (1, xi (↑n)), (2, xi x)]) (st' := [xi x, xi (↑n), xr 143]) rfl ?_
        refine ex_inl (M' := xM_m_officialTells) (as := [xr 143, xi (↑n), xi x]) (rest := []) (D' := 27) rfl (Nat.le_of_ble_eq_true rfl) (by decide) rfl ⟨rfl, rfl, rfl⟩ ⟨Nat.le_of_ble_eq_true rfl, rfl, rfl⟩ (Nat.le_of_ble_eq_true rfl) rfl ?_
        refine ex_st 2 (pc' := 3) (ls' := [(0, xr 143), (1, xi (↑n)), (2, xi x)]) (st' := [xi 12, xr 143]) rfl ?_
        refine ex_call (ct_m_body (b := 12) (by decide)) (by decide) rfl ⟨rfl, rfl, rfl⟩ ⟨Nat.le_of_ble_eq_true rfl, rfl, rfl⟩ (Nat.le_of_ble_eq_true rfl) rfl ?_
        refine ex_st 3 (pc' := 9) (ls' := [(0, xr 143), (1, xi (↑n)), (2, xi x)]) (st' := [xi x, xi (↑n), xr 143]) rfl ?_
        refine ex_inl (M' := xM_m_looksAct) (as := [xr 143, xi (↑n), xi x]) (rest := []) (D' := 26) rfl (Nat.le_of_ble_eq_true rfl) (by decide) rfl ⟨rfl, rfl, rfl⟩ ⟨Nat.le_of_ble_eq_true rfl, rfl, rfl⟩ (Nat.le_of_ble_eq_true rfl) rfl ?_
        refine ex_st 3 (pc' := 5) (ls' := [(0, xr 143), (1, xi (↑n)), (2, xi x)]) (st' := [xi (↑n), xr 144]) rfl ?_
        refine ex_iald (j := n) rfl (by decide) (rfl : xSH[144]? = some _) (by omega) (by omega) (by decide) ?_
        rw [wM_f (by omega), wC_f (by omega), aJ_f (by omega), hq]
        refine ex_st 1 (pc' := 62) (ls' := [(0, xr 143), (1, xi (↑n)), (2, xi x)]) (st' := []) rfl ?_
        refine ex_st 2 (pc' := 65) (ls' := [(0, xr 143), (1, xi (↑n)), (2, xi x)]) (st' := [xi 70, xr 143]) rfl ?_
        refine ex_call (ct_m_body (b := 70) (by decide)) (by decide) rfl ⟨rfl, rfl, rfl⟩ ⟨Nat.le_of_ble_eq_true rfl, rfl, rfl⟩ (Nat.le_of_ble_eq_true rfl) rfl ?_
        refine ex_st 3 (pc' := 71) (ls' := [(0, xr 143), (1, xi (↑n)), (2, xi x)]) (st' := [xi x, xi (↑n), xr 143]) rfl ?_
        refine ex_inl (M' := xM_m_officialLooks) (as := [xr 143, xi (↑n), xi x]) (rest := []) (D' := 25) rfl (Nat.le_of_ble_eq_true rfl) (by decide) rfl ⟨rfl, rfl, rfl⟩ ⟨Nat.le_of_ble_eq_true rfl, rfl, rfl⟩ (Nat.le_of_ble_eq_true rfl) rfl ?_
        refine ex_st 2 (pc' := 3) (ls' := [(0, xr 143), (1, xi (↑n)), (2, xi x)]) (st' := [xi 11, xr 143]) rfl ?_
        refine ex_call (ct_m_body (b := 11) (by decide)) (by decide) rfl ⟨rfl, rfl, rfl⟩ ⟨Nat.le_of_ble_eq_true rfl, rfl, rfl⟩ (Nat.le_of_ble_eq_true rfl) rfl ?_
        refine ex_st 3 (pc' := 9) (ls' := [(0, xr 143), (1, xi (↑n)), (2, xi x)]) (st' := [xi x, xi (↑n), xr 143]) rfl ?_
        refine ex_inl (M' := xM_m_clucksAct) (as := [xr 143, xi (↑n), xi x]) (rest := []) (D' := 24) rfl (Nat.le_of_ble_eq_true rfl) (by decide) rfl ⟨rfl, rfl, rfl⟩ ⟨Nat.le_of_ble_eq_true rfl, rfl, rfl⟩ (Nat.le_of_ble_eq_true rfl) rfl ?_
        refine ex_st 3 (pc' := 5) (ls' := [(0, xr 143), (1, xi (↑n)), (2, xi x)]) (st' := [xi (↑n), xr 144]) rfl ?_
        refine ex_iald (j := n) rfl (by decide) (rfl : xSH[144]? = some _) (by omega) (by omega) (by decide) ?_
        rw [wM_f (by omega), wC_f (by omega), aJ_f (by omega), hq]
        refine ex_st 1 (pc' := 69) (ls' := [(0, xr 143), (1, xi (↑n)), (2, xi x)]) (st' := []) rfl ?_
        refine ex_st 2 (pc' := 72) (ls' := [(0, xr 143), (1, xi (↑n)), (2, xi x)]) (st' := [xi 71, xr 143]) rfl ?_
        refine ex_call (ct_m_body (b := 71) (by decide)) (by decide) rfl ⟨rfl, rfl, rfl⟩ ⟨Nat.le_of_ble_eq_true rfl, rfl, rfl⟩ (Nat.le_of_ble_eq_true rfl) rfl ?_
        refine ex_st 3 (pc' := 78) (ls' := [(0, xr 143), (1, xi (↑n)), (2, xi x)]) (st' := [xi x, xi (↑n), xr 143]) rfl ?_
        refine ex_inl (M' := xM_m_officialClucks) (as := [xr 143, xi (↑n), xi x]) (rest := []) (D' := 23) rfl (Nat.le_of_ble_eq_true rfl) (by decide) rfl ⟨rfl, rfl, rfl⟩ ⟨Nat.le_of_ble_eq_true rfl, rfl, rfl⟩ (Nat.le_of_ble_eq_true rfl) rfl ?_
        refine ex_st 2 (pc' := 3) (ls' := [(0, xr 143), (1, xi (↑n)), (2, xi x)]) (st' := [xi 10, xr 143]) rfl ?_
        refine ex_call (ct_m_body (b := 10) (by decide)) (by decide) rfl ⟨rfl, rfl, rfl⟩ ⟨Nat.le_of_ble_eq_true rfl, rfl, rfl⟩ (Nat.le_of_ble_eq_true rfl) rfl ?_
        refine ex_st 3 (pc' := 9) (ls' := [(0, xr 143), (1, xi (↑n)), (2, xi x)]) (st' := [xi (x + (↑n))]) rfl ?_
        refine ex_reti rfl rfl ?_
        refine ex_st 3 (pc' := 86) (ls' := [(0, xr 143), (1, xi (↑n)), (2, xi x)]) (st' := [xi (↑n), xr 145, xi (x + (↑n))]) rfl ?_
        refine ex_iald (j := n) rfl (by decide) (rfl : xSH[145]? = some _) (by omega) (by omega) (by decide) ?_
        rw [wM_f (by omega), wC_f (by omega), aJ_f (by omega)]
        refine ex_ixor rfl ?_
        generalize hzx1 : z_xor (x + (↑n)) (I 145 n) = zx1
        refine ex_reti rfl rfl ?_
        refine ex_st 3 (pc' := 17) (ls' := [(0, xr 143), (1, xi (↑n)), (2, xi x)]) (st' := [xi (↑n), xr 145, xi zx1]) rfl ?_
        refine ex_iald (j := n) rfl (by decide) (rfl : xSH[145]? = some _) (by omega) (by omega) (by decide) ?_
        rw [wM_f (by omega), wC_f (by omega), aJ_f (by omega)]
        refine ex_st 1 (pc' := 19) (ls' := [(0, xr 143), (1, xi (↑n)), (2, xi x)]) (st' := [xi (zx1 - (I 145 n))]) rfl ?_
        refine ex_reti rfl rfl ?_
        refine ex_st 5 (pc' := 79) (ls' := [(3, xi (zx1 - (I 145 n))), (0, xr 143), (1, xi (↑n)), (2, xi x)]) (st' := [xi 2, xi (↑n), xr 143, xi (zx1 - (I 145 n))]) rfl ?_
        refine ex_inl (M' := xM_m_officialClucks) (as := [xr 143, xi (↑n), xi 2]) (rest := [xi (zx1 - (I 145 n))]) (D' := 25) rfl (Nat.le_of_ble_eq_true rfl) (by decide) rfl ⟨rfl, rfl, rfl⟩ ⟨Nat.le_of_ble_eq_true rfl, rfl, rfl⟩ (Nat.le_of_ble_eq_true rfl) rfl ?_
        refine ex_st 2 (pc' := 3) (ls' := [(0, xr 143), (1, xi (↑n)), (2, xi 2)]) (st' := [xi 10, xr 143]) rfl ?_
        refine ex_call (ct_m_body (b := 10) (by decide)) (by decide) rfl ⟨rfl, rfl, rfl⟩ ⟨Nat.le_of_ble_eq_true rfl, rfl, rfl⟩ (Nat.le_of_ble_eq_true rfl) rfl ?_
        refine ex_st 3 (pc' := 9) (ls' := [(0, xr 143), (1, xi (↑n)), (2, xi 2)]) (st' := [xi (2 + (↑n))]) rfl ?_
        refine ex_reti rfl rfl ?_
        refine ex_st 1 (pc' := 83) (ls' := [(3, xi (zx1 - (I 145 n))), (0, xr 143), (1, xi (↑n)), (2, xi x)]) (st' := [xi ((zx1 - (I 145 n)) + (2 + (↑n)))]) rfl ?_
        refine ex_reti rfl rfl ?_
        refine ex_st 2 (pc' := 14) (ls' := [(0, xr 143), (1, xi (↑n)), (2, xi x)]) (st' := [xi (((zx1 - (I 145 n)) + (2 + (↑n))) * 2)]) rfl ?_
        refine ex_reti rfl rfl ?_
        refine ex_st 5 (pc' := 53) (ls' := [(3, xi (((zx1 - (I 145 n)) + (2 + (↑n))) * 2)), (0, xr 143), (1, xi (↑n)), (2, xi x)]) (st' := [xi 1, xi (↑n), xr 143, xi (((zx1 - (I 145 n)) + (2 + (↑n))) * 2)]) rfl ?_
        refine ex_inl (M' := xM_m_looksAct) (as := [xr 143, xi (↑n), xi 1]) (rest := [xi (((zx1 - (I 145 n)) + (2 + (↑n))) * 2)]) (D' := 27) rfl (Nat.le_of_ble_eq_true rfl) (by decide) rfl ⟨rfl, rfl, rfl⟩ ⟨Nat.le_of_ble_eq_true rfl, rfl, rfl⟩ (Nat.le_of_ble_eq_true rfl) rfl ?_
        refine ex_st 3 (pc' := 5) (ls' := [(0, xr 143), (1, xi (↑n)), (2, xi 1)]) (st' := [xi (↑n), xr 144]) rfl ?_
        refine ex_iald (j := n) rfl (by decide) (rfl : xSH[144]? = some _) (by omega) (by omega) (by decide) ?_
        rw [wM_f (by omega), wC_f (by omega), aJ_f (by omega), hq]
        refine ex_st 1 (pc' := 62) (ls' := [(0, xr 143), (1, xi (↑n)), (2, xi 1)]) (st' := []) rfl ?_
        refine ex_st 2 (pc' := 65) (ls' := [(0, xr 143), (1, xi (↑n)), (2, xi 1)]) (st' := [xi 70, xr 143]) rfl ?_
        refine ex_call (ct_m_body (b := 70) (by decide)) (by decide) rfl ⟨rfl, rfl, rfl⟩ ⟨Nat.le_of_ble_eq_true rfl, rfl, rfl⟩ (Nat.le_of_ble_eq_true rfl) rfl ?_
        refine ex_st 3 (pc' := 71) (ls' := [(0, xr 143), (1, xi (↑n)), (2, xi 1)]) (st' := [xi 1, xi (↑n), xr 143]) rfl ?_
        refine ex_inl (M' := xM_m_officialLooks) (as := [xr 143, xi (↑n), xi 1]) (rest := []) (D' := 26) rfl (Nat.le_of_ble_eq_true rfl) (by decide) rfl ⟨rfl, rfl, rfl⟩ ⟨Nat.le_of_ble_eq_true rfl, rfl, rfl⟩ (Nat.le_of_ble_eq_true rfl) rfl ?_
        refine ex_st 2 (pc' := 3) (ls' := [(0, xr 143), (1, xi (↑n)), (2, xi 1)]) (st' := [xi 11, xr 143]) rfl ?_
        refine ex_call (ct_m_body (b := 11) (by decide)) (by decide) rfl ⟨rfl, rfl, rfl⟩ ⟨Nat.le_of_ble_eq_true rfl, rfl, rfl⟩ (Nat.le_of_ble_eq_true rfl) rfl ?_
        refine ex_st 3 (pc' := 9) (ls' := [(0, xr 143), (1, xi (↑n)), (2, xi 1)]) (st' := [xi 1, xi (↑n), xr 143]) rfl ?_
        refine ex_inl (M' := xM_m_clucksAct) (as := [xr 143, xi (↑n), xi 1]) (rest := []) (D' := 25) rfl (Nat.le_of_ble_eq_true rfl) (by decide) rfl ⟨rfl, rfl, rfl⟩ ⟨Nat.le_of_ble_eq_true rfl, rfl, rfl⟩ (Nat.le_of_ble_eq_true rfl) rfl ?_
        refine ex_st 3 (pc' := 5) (ls' := [(0, xr 143), (1, xi (↑n)), (2, xi 1)]) (st' := [xi (↑n), xr 144]) rfl ?_
        refine ex_iald (j := n) rfl (by decide) (rfl : xSH[144]? = some _) (by omega) (by omega) (by decide) ?_
        rw [wM_f (by omega), wC_f (by omega), aJ_f (by omega), hq]
        refine ex_st 1 (pc' := 69) (ls' := [(0, xr 143), (1, xi (↑n)), (2, xi 1)]) (st' := []) rfl ?_
        refine ex_st 2 (pc' := 72) (ls' := [(0, xr 143), (1, xi (↑n)), (2, xi 1)]) (st' := [xi 71, xr 143]) rfl ?_
        refine ex_call (ct_m_body (b := 71) (by decide)) (by decide) rfl ⟨rfl, rfl, rfl⟩ ⟨Nat.le_of_ble_eq_true rfl, rfl, rfl⟩ (Nat.le_of_ble_eq_true rfl) rfl ?_
        refine ex_st 3 (pc' := 78) (ls' := [(0, xr 143), (1, xi (↑n)), (2, xi 1)]) (st' := [xi 1, xi (↑n), xr 143]) rfl ?_
        refine ex_inl (M' := xM_m_officialClucks) (as := [xr 143, xi (↑n), xi 1]) (rest := []) (D' := 24) rfl (Nat.le_of_ble_eq_true rfl) (by decide) rfl ⟨rfl, rfl, rfl⟩ ⟨Nat.le_of_ble_eq_true rfl, rfl, rfl⟩ (Nat.le_of_ble_eq_true rfl) rfl ?_
        refine ex_st 2 (pc' := 3) (ls' := [(0, xr 143), (1, xi (↑n)), (2, xi 1)]) (st' := [xi 10, xr 143]) rfl ?_
        refine ex_call (ct_m_body (b := 10) (by decide)) (by decide) rfl ⟨rfl, rfl, rfl⟩ ⟨Nat.le_of_ble_eq_true rfl, rfl, rfl⟩ (Nat.le_of_ble_eq_true rfl) rfl ?_
        refine ex_st 3 (pc' := 9) (ls' := [(0, xr 143), (1, xi (↑n)), (2, xi 1)]) (st' := [xi (1 + (↑n))]) rfl ?_
        refine ex_reti rfl rfl ?_
        refine ex_st 3 (pc' := 86) (ls' := [(0, xr 143), (1, xi (↑n)), (2, xi 1)]) (st' := [xi (↑n), xr 145, xi (1 + (↑n))]) rfl ?_
        refine ex_iald (j := n) rfl (by decide) (rfl : xSH[145]? = some _) (by omega) (by omega) (by decide) ?_
        rw [wM_f (by omega), wC_f (by omega), aJ_f (by omega)]
        refine ex_ixor rfl ?_
        generalize hzx2 : z_xor (1 + (↑n)) (I 145 n) = zx2
        refine ex_reti rfl rfl ?_
        refine ex_st 3 (pc' := 17) (ls' := [(0, xr 143), (1, xi (↑n)), (2, xi 1)]) (st' := [xi (↑n), xr 145, xi zx2]) rfl ?_
        refine ex_iald (j := n) rfl (by decide) (rfl : xSH[145]? = some _) (by omega) (by omega) (by decide) ?_
        rw [wM_f (by omega), wC_f (by omega), aJ_f (by omega)]
        refine ex_st 1 (pc' := 19) (ls' := [(0, xr 143), (1, xi (↑n)), (2, xi 1)]) (st' := [xi (zx2 - (I 145 n))]) rfl ?_
        refine ex_reti rfl rfl ?_
        refine ex_st 5 (pc' := 79) (ls' := [(3, xi (zx2 - (I 145 n))), (0, xr 143), (1, xi (↑n)), (2, xi 1)]) (st' := [xi 2, xi (↑n), xr 143, xi (zx2 - (I 145 n))]) rfl ?_
        refine ex_inl (M' := xM_m_officialClucks) (as := [xr 143, xi (↑n), xi 2]) (rest := [xi (zx2 - (I 145 n))]) (D' := 26) rfl (Nat.le_of_ble_eq_true rfl) (by decide) rfl ⟨rfl, rfl, rfl⟩ ⟨Nat.le_of_ble_eq_true rfl, rfl, rfl⟩ (Nat.le_of_ble_eq_true rfl) rfl ?_
        refine ex_st 2 (pc' := 3) (ls' := [(0, xr 143), (1, xi (↑n)), (2, xi 2)]) (st' := [xi 10, xr 143]) rfl ?_
        refine ex_call (ct_m_body (b := 10) (by decide)) (by decide) rfl ⟨rfl, rfl, rfl⟩ ⟨Nat.le_of_ble_eq_true rfl, rfl, rfl⟩ (Nat.le_of_ble_eq_true rfl) rfl ?_
        refine ex_st 3 (pc' := 9) (ls' := [(0, xr 143), (1, xi (↑n)), (2, xi 2)]) (st' := [xi (2 + (↑n))]) rfl ?_
        refine ex_reti rfl rfl ?_
        refine ex_st 1 (pc' := 83) (ls' := [(3, xi (zx2 - (I 145 n))), (0, xr 143), (1, xi (↑n)), (2, xi 1)]) (st' := [xi ((zx2 - (I 145 n)) + (2 + (↑n)))]) rfl ?_
        refine ex_reti rfl rfl ?_
        refine ex_st 1 (pc' := 57) (ls' := [(3, xi (((zx1 - (I 145 n)) + (2 + (↑n))) * 2)), (0, xr 143), (1, xi (↑n)), (2, xi x)]) (st' := [xi ((((zx1 - (I 145 n)) + (2 + (↑n))) * 2) + ((zx2 - (I 145 n)) + (2 + (↑n))))]) rfl ?_
        refine ex_reti rfl rfl ?_
        refine ex_reti rfl rfl ?_
        subst hzx2
        subst hzx1
        exact ⟨x_req (by first | rfl | omega | (congr 1; omega)), _, _, rfl, Rl.act hR (by decide)⟩
      · exfalso; omega
theorem op_act_n {sc : List Int} {I : Nat → Nat → Int} {L : Nat → Nat → Int64} (hR : Rl I L) {n : Nat} {a x : Int} (hv : (n : Int) < I 1 1) (ha0 : x_R a) (ha : ¬ (0 ≤ a ∧ a < 3)) : x_PQ sc xN_G_act [xr 0, xi (↑n), xi a, xi x] xN_m_act [xr 143, xi (↑n), xi a, xi x] (xSH, I, L) := by
  obtain ⟨⟨hNs, hNo, hNa, hNb, hNr, hNd, hNg, hNe, hNp, hNk⟩, hI, hT, hX, hC, hH, hQ⟩ := id hR
  have hs := hNs
  unfold RNs at hs
  refine x_CQ.of (M := xM_G_act) rfl (Nat.le_of_ble_eq_true rfl) ?_
  refine ex_st 2 (pc' := 2) (ls' := [(0, xr 0), (1, xi (↑n)), (2, xi a), (3, xi x)]) (st' := [xi (↑n), xr 0]) rfl ?_
  refine ex_call (ct_G_isOfficial2 (c := I 1 1) (by first | omega | (constructor <;> omega) | assumption | ((repeat rw [x_up_far (by omega)]); first | rfl | omega | (constructor <;> omega))) (by (repeat rw [x_up_far (by omega)]); try rfl) (by first | omega | (constructor <;> omega) | assumption | ((repeat rw [x_up_far (by omega)]); first | rfl | omega | (constructor <;> omega)))) (by decide) rfl ⟨rfl, rfl, rfl⟩ ⟨Nat.le_of_ble_eq_true rfl, rfl, rfl⟩ (Nat.le_of_ble_eq_true rfl) rfl ?_
  refine ex_beq rfl (fun h0 => ?_) (fun h0 => ?_)
  · exfalso; omega
  · refine ex_st 1 (pc' := 9) (ls' := [(0, xr 0), (1, xi (↑n)), (2, xi a), (3, xi x)]) (st' := [xi a]) rfl ?_
    refine ex_if rfl (by first | omega | (constructor <;> omega) | assumption) (fun (h1 : a < 0) => ?_) (fun (h1 : ¬ a < 0) => ?_)
    · refine ex_st 3 (pc' := 22) (ls' := [(0, xr 0), (1, xi (↑n)), (2, xi a), (3, xi x)]) (st' := [xi 0, xr 104]) rfl ?_
      refine ex_pfi rfl (by decide) (rfl : xSH[104]? = some _) (by decide) rfl (by decide) (fun h => by cases h) ?_
      refine ex_st 1 (pc' := 26) (ls' := [(0, xr 0), (1, xi (↑n)), (2, xi a), (3, xi x)]) (st' := [xi 0]) rfl ?_
      refine ex_reti rfl rfl ?_
      refine x_CQ.of (M := xM_m_act) rfl (Nat.le_of_ble_eq_true rfl) ?_
      refine ex_st 2 (pc' := 2) (ls' := [(0, xr 143), (1, xi (↑n)), (2, xi a), (3, xi x)]) (st' := [xi 0, xr 143]) rfl ?_
      refine ex_pfi rfl (by decide) (rfl : xSH[143]? = some _) (by decide) rfl (by decide) (fun h => by cases h) ?_
      refine ex_st 2 (pc' := 7) (ls' := [(0, xr 143), (1, xi (↑n)), (2, xi a), (3, xi x)]) (st' := [xi (↑n), xr 143]) rfl ?_
      refine ex_call (ct_m_isOfficial2 (c := I 143 0) (by first | omega | (constructor <;> omega) | assumption | ((repeat rw [x_up_far (by omega)]); first | rfl | omega | (constructor <;> omega))) (by (repeat rw [x_up_far (by omega)]); try rfl) (by first | omega | (constructor <;> omega) | assumption | ((repeat rw [x_up_far (by omega)]); first | rfl | omega | (constructor <;> omega)))) (by decide) rfl ⟨rfl, rfl, rfl⟩ ⟨Nat.le_of_ble_eq_true rfl, rfl, rfl⟩ (Nat.le_of_ble_eq_true rfl) rfl ?_
      refine ex_beq rfl (fun h2 => ?_) (fun h2 => ?_)
      · exfalso; omega
      · refine ex_st 4 (pc' := 17) (ls' := [(0, xr 143), (1, xi (↑n)), (2, xi a), (3, xi x)]) (st' := [xi 2, xi 0, xi a, xr 143]) rfl ?_
        refine ex_call (ct_m_in (by first | omega | (constructor <;> omega) | assumption) (by first | omega | (constructor <;> omega) | assumption) (by first | omega | (constructor <;> omega) | assumption)) (by decide) rfl ⟨rfl, rfl, rfl⟩ ⟨Nat.le_of_ble_eq_true rfl, rfl, rfl⟩ (Nat.le_of_ble_eq_true rfl) rfl ?_
        refine ex_bne rfl (fun h3 => ?_) (fun h3 => ?_)
        · exfalso; omega
        · refine ex_st 1 (pc' := 24) (ls' := [(0, xr 143), (1, xi (↑n)), (2, xi a), (3, xi x)]) (st' := [xi 0]) rfl ?_
          refine ex_reti rfl rfl ?_
          exact ⟨x_req rfl, _, _, rfl, Rl.act0 hR⟩
    · refine ex_st 2 (pc' := 14) (ls' := [(0, xr 0), (1, xi (↑n)), (2, xi a), (3, xi x)]) (st' := [xi 2, xi a]) rfl ?_
      refine ex_ic rfl (by first | omega | (constructor <;> omega) | assumption) (by decide) (fun (h4 : a ≤ 2) => ?_) (fun (h4 : ¬ a ≤ 2) => ?_)
      · exfalso; omega
      · refine ex_st 3 (pc' := 22) (ls' := [(0, xr 0), (1, xi (↑n)), (2, xi a), (3, xi x)]) (st' := [xi 0, xr 104]) rfl ?_
        refine ex_pfi rfl (by decide) (rfl : xSH[104]? = some _) (by decide) rfl (by decide) (fun h => by cases h) ?_
        refine ex_st 1 (pc' := 26) (ls' := [(0, xr 0), (1, xi (↑n)), (2, xi a), (3, xi x)]) (st' := [xi 0]) rfl ?_
        refine ex_reti rfl rfl ?_
        refine x_CQ.of (M := xM_m_act) rfl (Nat.le_of_ble_eq_true rfl) ?_
        refine ex_st 2 (pc' := 2) (ls' := [(0, xr 143), (1, xi (↑n)), (2, xi a), (3, xi x)]) (st' := [xi 0, xr 143]) rfl ?_
        refine ex_pfi rfl (by decide) (rfl : xSH[143]? = some _) (by decide) rfl (by decide) (fun h => by cases h) ?_
        refine ex_st 2 (pc' := 7) (ls' := [(0, xr 143), (1, xi (↑n)), (2, xi a), (3, xi x)]) (st' := [xi (↑n), xr 143]) rfl ?_
        refine ex_call (ct_m_isOfficial2 (c := I 143 0) (by first | omega | (constructor <;> omega) | assumption | ((repeat rw [x_up_far (by omega)]); first | rfl | omega | (constructor <;> omega))) (by (repeat rw [x_up_far (by omega)]); try rfl) (by first | omega | (constructor <;> omega) | assumption | ((repeat rw [x_up_far (by omega)]); first | rfl | omega | (constructor <;> omega)))) (by decide) rfl ⟨rfl, rfl, rfl⟩ ⟨Nat.le_of_ble_eq_true rfl, rfl, rfl⟩ (Nat.le_of_ble_eq_true rfl) rfl ?_
        refine ex_beq rfl (fun h5 => ?_) (fun h5 => ?_)
        · exfalso; omega
        · refine ex_st 4 (pc' := 17) (ls' := [(0, xr 143), (1, xi (↑n)), (2, xi a), (3, xi x)]) (st' := [xi 2, xi 0, xi a, xr 143]) rfl ?_
          refine ex_call (ct_m_in (by first | omega | (constructor <;> omega) | assumption) (by first | omega | (constructor <;> omega) | assumption) (by first | omega | (constructor <;> omega) | assumption)) (by decide) rfl ⟨rfl, rfl, rfl⟩ ⟨Nat.le_of_ble_eq_true rfl, rfl, rfl⟩ (Nat.le_of_ble_eq_true rfl) rfl ?_
          refine ex_bne rfl (fun h6 => ?_) (fun h6 => ?_)
          · exfalso; omega
          · refine ex_st 1 (pc' := 24) (ls' := [(0, xr 143), (1, xi (↑n)), (2, xi a), (3, xi x)]) (st' := [xi 0]) rfl ?_
            refine ex_reti rfl rfl ?_
            exact ⟨x_req rfl, _, _, rfl, Rl.act0 hR⟩
theorem op_act_b {sc : List Int} {I : Nat → Nat → Int} {L : Nat → Nat → Int64} (hR : Rl I L) {t a x : Int} (ht : x_R t) (ha0 : x_R a) (hv : ¬ (0 ≤ t ∧ t < I 1 1)) : x_PQ sc xN_G_act [xr 0, xi t, xi a, xi x] xN_m_act [xr 143, xi t, xi a, xi x] (xSH, I, L) := by
  obtain ⟨⟨hNs, hNo, hNa, hNb, hNr, hNd, hNg, hNe, hNp, hNk⟩, hI, hT, hX, hC, hH, hQ⟩ := id hR
  have hs := hNs
  unfold RNs at hs
  refine x_CQ.of (M := xM_G_act) rfl (Nat.le_of_ble_eq_true rfl) ?_
  refine ex_st 2 (pc' := 2) (ls' := [(0, xr 0), (1, xi t), (2, xi a), (3, xi x)]) (st' := [xi t, xr 0]) rfl ?_
  refine ex_call (ct_G_isOfficial2 (c := I 1 1) (by first | omega | (constructor <;> omega) | assumption | ((repeat rw [x_up_far (by omega)]); first | rfl | omega | (constructor <;> omega))) (by (repeat rw [x_up_far (by omega)]); try rfl) (by first | omega | (constructor <;> omega) | assumption | ((repeat rw [x_up_far (by omega)]); first | rfl | omega | (constructor <;> omega)))) (by decide) rfl ⟨rfl, rfl, rfl⟩ ⟨Nat.le_of_ble_eq_true rfl, rfl, rfl⟩ (Nat.le_of_ble_eq_true rfl) rfl ?_
  refine ex_beq rfl (fun h0 => ?_) (fun h0 => ?_)
  · refine ex_st 3 (pc' := 22) (ls' := [(0, xr 0), (1, xi t), (2, xi a), (3, xi x)]) (st' := [xi 0, xr 104]) rfl ?_
    refine ex_pfi rfl (by decide) (rfl : xSH[104]? = some _) (by decide) rfl (by decide) (fun h => by cases h) ?_
    refine ex_st 1 (pc' := 26) (ls' := [(0, xr 0), (1, xi t), (2, xi a), (3, xi x)]) (st' := [xi 0]) rfl ?_
    refine ex_reti rfl rfl ?_
    refine x_CQ.of (M := xM_m_act) rfl (Nat.le_of_ble_eq_true rfl) ?_
    refine ex_st 2 (pc' := 2) (ls' := [(0, xr 143), (1, xi t), (2, xi a), (3, xi x)]) (st' := [xi 0, xr 143]) rfl ?_
    refine ex_pfi rfl (by decide) (rfl : xSH[143]? = some _) (by decide) rfl (by decide) (fun h => by cases h) ?_
    refine ex_st 2 (pc' := 7) (ls' := [(0, xr 143), (1, xi t), (2, xi a), (3, xi x)]) (st' := [xi t, xr 143]) rfl ?_
    refine ex_call (ct_m_isOfficial2 (c := I 143 0) (by first | omega | (constructor <;> omega) | assumption | ((repeat rw [x_up_far (by omega)]); first | rfl | omega | (constructor <;> omega))) (by (repeat rw [x_up_far (by omega)]); try rfl) (by first | omega | (constructor <;> omega) | assumption | ((repeat rw [x_up_far (by omega)]); first | rfl | omega | (constructor <;> omega)))) (by decide) rfl ⟨rfl, rfl, rfl⟩ ⟨Nat.le_of_ble_eq_true rfl, rfl, rfl⟩ (Nat.le_of_ble_eq_true rfl) rfl ?_
    refine ex_beq rfl (fun h1 => ?_) (fun h1 => ?_)
    · refine ex_st 1 (pc' := 24) (ls' := [(0, xr 143), (1, xi t), (2, xi a), (3, xi x)]) (st' := [xi 0]) rfl ?_
      refine ex_reti rfl rfl ?_
      exact ⟨x_req rfl, _, _, rfl, Rl.act0 hR⟩
    · exfalso; omega
  · exfalso; omega

