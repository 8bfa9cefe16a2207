/-! the law's loop -/
/-- cells keep their class and their size -/
def x_tg (m m' : xMem) : Prop := ∀ (k t n : Nat) (rs : List (Option Nat)), m.1[k]? = some (t, n, rs) → ∃ rs', m'.1[k]? = some (t, n, rs')
theorem x_tg_rfl (m : xMem) : x_tg m m := fun _ _ _ rs h => ⟨rs, h⟩
theorem x_tg_sh {m m' : xMem} (h : m'.1 = m.1) : x_tg m m' := fun _ _ _ rs q => ⟨rs, by rw [h]; exact q⟩
theorem x_tg_trans {a b c : xMem} (h : x_tg a b) (h' : x_tg b c) : x_tg a c := fun k t n rs q => by
  obtain ⟨rs1, q1⟩ := h k t n rs q
  exact h' k t n rs1 q1
theorem x_tg_app (m : xMem) (ns : List xShp) : x_tg m (m.1 ++ ns, m.2) := fun k t n rs q => ⟨rs, by
  show (m.1 ++ ns)[k]? = _
  rw [List.getElem?_append_left (List.getElem?_eq_some_iff.mp q).1]; exact q⟩
theorem x_tg_set {m : xMem} {k t n : Nat} {rs rs' : List (Option Nat)} (h : m.1[k]? = some (t, n, rs)) : x_tg m (m.1.set k (t, n, rs'), m.2) := fun k' t' n' r q => by
  by_cases e : k' = k
  · subst e
    have := h.symm.trans q
    simp only [Option.some.injEq, Prod.mk.injEq] at this
    obtain ⟨rfl, rfl, -⟩ := this
    exact ⟨rs', by show (m.1.set k' (t, n, rs'))[k']? = _; rw [List.getElem?_set_self (List.getElem?_eq_some_iff.mp h).1]⟩
  · exact ⟨r, by show (m.1.set k (t, n, rs'))[k']? = _; rw [List.getElem?_set_ne (Ne.symm e)]; exact q⟩
set_option maxHeartbeats 4000000 in
theorem x_sm_tg {sc : List Int} {nL : Nat} {e : xEnt} {pc pc' : Nat} {ls ls' : xLc} {st st' : List xPV} {m m' : xMem} (h : x_sm sc nL e pc ls st m = some (pc', ls', st', m')) : x_tg m m' := by
  obtain ⟨ins, len, a, b, z⟩ := e
  cases ins <;> simp only [x_sm, x_math] at h <;> (repeat' split at h) <;> first
    | (cases h; done)
    | (simp only [Option.some.injEq, Prod.mk.injEq] at h; obtain ⟨-, -, -, rfl⟩ := h; first
        | exact x_tg_rfl _
        | exact x_tg_sh rfl
        | exact x_tg_app _ _
        | exact x_tg_set (by assumption))
theorem x_run_tg {call : Nat → List xPV → xMem → Option (Option xPV × xMem)} (hc : ∀ μ as m r m', call μ as m = some (r, m') → x_tg m m') {sc : List Int} {M : xMt} : ∀ (n pc : Nat) (ls : xLc) (st : List xPV) (m : xMem) (r : Option xPV) (m' : xMem), x_run call sc M n pc ls st m = some (r, m') → x_tg m m'
  | 0, _, _, _, _, _, _, h => by simp [x_run] at h
  | n + 1, pc, ls, st, m, r, m', h => by
    unfold x_run at h
    split at h
    · cases h
    · next e he =>
      split at h
      · rw [x_ret_same h]; exact x_tg_rfl _
      · split at h
        · split at h
          · split at h
            · next r1 m1 h1 => exact x_tg_trans (hc _ _ _ _ _ h1) (x_run_tg hc n _ _ _ _ _ _ h)
            · cases h
          · cases h
        · split at h
          · next pc1 ls1 st1 m1 h1 => exact x_tg_trans (x_sm_tg h1) (x_run_tg hc n _ _ _ _ _ _ h)
          · cases h
theorem x_cal_tg {sc : List Int} : ∀ (d f : Nat) (μ : Nat) (as : List xPV) (m : xMem) (r : Option xPV) (m' : xMem), x_cal sc d f μ as m = some (r, m') → x_tg m m'
  | 0, _, _, _, _, _, _, h => by simp [x_cal] at h
  | d + 1, f, μ, as, m, r, m', h => by
    unfold x_cal at h
    split at h
    · split at h
      · exact x_run_tg (fun μ as m r m' h => x_cal_tg d f μ as m r m' h) _ _ _ _ _ _ _ h
      · cases h
    · cases h
/-- an answer's kind -/
def x_kd (k : Nat) (r : Option xPV) : Prop := (k = 1 → ∃ z, r = some (xi z)) ∧ (k = 4 → ∃ z, r = some (xl z))
theorem x_ret_kd {rk : Nat} {ins : Instr} {st : List xPV} {m m' : xMem} {r : Option xPV} (h : x_ret rk ins st m = some (r, m')) : x_kd rk r := by
  unfold x_ret at h
  repeat' split at h
  all_goals first | (cases h; done) | (simp only [Option.some.injEq, Prod.mk.injEq] at h; obtain ⟨rfl, -⟩ := h; exact ⟨fun q => by first | exact ⟨_, rfl⟩ | (exfalso; omega), fun q => by first | exact ⟨_, rfl⟩ | (exfalso; omega)⟩)
theorem x_run_kd {call : Nat → List xPV → xMem → Option (Option xPV × xMem)} {sc : List Int} {M : xMt} : ∀ (n pc : Nat) (ls : xLc) (st : List xPV) (m : xMem) (r : Option xPV) (m' : xMem), x_run call sc M n pc ls st m = some (r, m') → x_kd M.1 r
  | 0, _, _, _, _, _, _, h => by simp [x_run] at h
  | n + 1, pc, ls, st, m, r, m', h => by
    unfold x_run at h
    split at h
    · cases h
    · next e he =>
      split at h
      · exact x_ret_kd h
      · split at h
        · split at h
          · split at h
            · next r1 m1 h1 => exact x_run_kd n _ _ _ _ _ _ h
            · cases h
          · cases h
        · split at h
          · next pc1 ls1 st1 m1 h1 => exact x_run_kd n _ _ _ _ _ _ h
          · cases h
theorem x_CE.tk {sc : List Int} {D μ : Nat} {as : List xPV} {m m' : xMem} {r : Option xPV} (h : x_CE sc D μ as m r m') {M : xMt} (hM : x_mts[μ]? = some M) : x_tg m m' ∧ x_kd M.1 r := by
  obtain ⟨N, hN⟩ := h
  have h1 := hN N (Nat.le_refl _) (D + 1) (by omega)
  refine ⟨x_cal_tg _ _ _ _ _ _ _ h1, ?_⟩
  unfold x_cal at h1
  rw [hM] at h1
  dsimp only at h1
  split at h1
  · exact x_run_kd _ _ _ _ _ _ _ h1
  · cases h1
theorem x_PQ.int {sc : List Int} {μ1 μ2 : Nat} {as1 as2 : List xPV} {I : Nat → Nat → Int} {L : Nat → Nat → Int64} (h : x_PQ sc μ1 as1 μ2 as2 (xSH, I, L)) {M : xMt} (hM : x_mts[μ1]? = some M) (hk : M.1 = 1) : ∃ z m1 I2 L2, x_CE sc 30 μ1 as1 (xSH, I, L) (some (xi z)) m1 ∧ x_CE sc 30 μ2 as2 m1 (some (xi z)) (xSH, I2, L2) ∧ Rl I2 L2 ∧ ∃ n rs, m1.1[143]? = some (9, n, rs) := by
  obtain ⟨r, m1, ⟨r2, m2, ⟨rfl, I2, L2, rfl, hR⟩, h2⟩, h1⟩ := h
  obtain ⟨t1, t2⟩ := h1.tk hM
  obtain ⟨z, rfl⟩ := t2.1 hk
  obtain ⟨rs, hrs⟩ := t1 143 9 _ _ (rfl : xSH[143]? = some _)
  exact ⟨z, m1, I2, L2, h1, h2, hR, _, rs, hrs⟩
theorem x_PQ.lng {sc : List Int} {μ1 μ2 : Nat} {as1 as2 : List xPV} {I : Nat → Nat → Int} {L : Nat → Nat → Int64} (h : x_PQ sc μ1 as1 μ2 as2 (xSH, I, L)) {M : xMt} (hM : x_mts[μ1]? = some M) (hk : M.1 = 4) : ∃ z m1 I2 L2, x_CE sc 30 μ1 as1 (xSH, I, L) (some (xl z)) m1 ∧ x_CE sc 30 μ2 as2 m1 (some (xl z)) (xSH, I2, L2) ∧ Rl I2 L2 ∧ ∃ n rs, m1.1[143]? = some (9, n, rs) := by
  obtain ⟨r, m1, ⟨r2, m2, ⟨rfl, I2, L2, rfl, hR⟩, h2⟩, h1⟩ := h
  obtain ⟨t1, t2⟩ := h1.tk hM
  obtain ⟨z, rfl⟩ := t2.2 hk
  obtain ⟨rs, hrs⟩ := t1 143 9 _ _ (rfl : xSH[143]? = some _)
  exact ⟨z, m1, I2, L2, h1, h2, hR, _, rs, hrs⟩
theorem x_recv_9 {m : xMem} {n : Nat} {rs : List (Option Nat)} (h : m.1[143]? = some (9, n, rs)) {c : Nat} {as : List xPV} : x_recv (.invokevirtual c) 9 m (xr 143 :: as) = true := by
  simp [x_recv, h]
theorem lg_cmp_self (x : Int64) : wr (lg_cmp x x).toInt = 0 := by
  have h : lg_cmp x x = 0 := by
    unfold lg_cmp
    rw [if_neg (Int64.lt_irrefl), if_pos rfl]
  rw [h]
  decide
set_option maxRecDepth 100000 in
theorem law_official {sc : List Int} {I : Nat → Nat → Int} {L : Nat → Nat → Int64} {Q : Option xPV → xMem → Prop} {j : Nat} {a : Nat → Int} (hl : sc.length < 100000) (hj : j + 6 ≤ sc.length) (ha : ∀ i, i < 6 → sc[j + i]? = some (a i) ∧ x_R (a i)) (hR : Rl I L) (kk : ∀ I' L', Rl I' L' → x_Ex sc 30 xM_law 1491 [(3, xi (↑j)), (2, xr 143), (1, xr 0), (0, xr 1000)] [] (xSH, I', L') Q) : x_Ex sc 30 xM_law 200 [(3, xi (↑j)), (2, xr 143), (1, xr 0), (0, xr 1000)] [] (xSH, I, L) Q := by
  refine ex_st 5 (pc' := 205) (ls' := [(3, xi (↑j)), (2, xr 143), (1, xr 0), (0, xr 1000)]) (st' := [xi (↑j + 1), xr 1000, xr 0]) rfl ?_
  refine ex_cald (j := j + 1) rfl (by decide) rfl (by omega) (by omega) hl (ha 1 (by decide)).1 ?_
  refine ex_st 4 (pc' := 210) (ls' := [(3, xi (↑j)), (2, xr 143), (1, xr 0), (0, xr 1000)]) (st' := [xi (↑j + 2), xr 1000, xi (a 1), xr 0]) rfl ?_
  refine ex_cald (j := j + 2) rfl (by decide) rfl (by omega) (by omega) hl (ha 2 (by decide)).1 ?_
  refine ex_st 4 (pc' := 215) (ls' := [(3, xi (↑j)), (2, xr 143), (1, xr 0), (0, xr 1000)]) (st' := [xi (↑j + 3), xr 1000, xi (a 2), xi (a 1), xr 0]) rfl ?_
  refine ex_cald (j := j + 3) rfl (by decide) rfl (by omega) (by omega) hl (ha 3 (by decide)).1 ?_
  obtain ⟨z, m1, I2, L2, h1, h2, hR2, n9, rs9, h9⟩ := (op_official (sc := sc) hR (ha 1 (by decide)).2 (ha 2 (by decide)).2 (ha 3 (by decide)).2).int (M := xM_G_official) rfl rfl
  refine ex_call h1 (by decide) rfl ⟨rfl, rfl, rfl⟩ ⟨Nat.le_of_ble_eq_true rfl, rfl, rfl⟩ (Nat.le_of_ble_eq_true rfl) rfl ?_
  refine ex_st 5 (pc' := 224) (ls' := [(3, xi (↑j)), (2, xr 143), (1, xr 0), (0, xr 1000)]) (st' := [xi (↑j + 1), xr 1000, xr 143, xi z]) rfl ?_
  refine ex_cald (j := j + 1) rfl (by decide) rfl (by omega) (by omega) hl (ha 1 (by decide)).1 ?_
  refine ex_st 4 (pc' := 229) (ls' := [(3, xi (↑j)), (2, xr 143), (1, xr 0), (0, xr 1000)]) (st' := [xi (↑j + 2), xr 1000, xi (a 1), xr 143, xi z]) rfl ?_
  refine ex_cald (j := j + 2) rfl (by decide) rfl (by omega) (by omega) hl (ha 2 (by decide)).1 ?_
  refine ex_st 4 (pc' := 234) (ls' := [(3, xi (↑j)), (2, xr 143), (1, xr 0), (0, xr 1000)]) (st' := [xi (↑j + 3), xr 1000, xi (a 2), xi (a 1), xr 143, xi z]) rfl ?_
  refine ex_cald (j := j + 3) rfl (by decide) rfl (by omega) (by omega) hl (ha 3 (by decide)).1 ?_
  refine ex_call h2 (by decide) rfl ⟨rfl, rfl, rfl⟩ ⟨Nat.le_of_ble_eq_true rfl, rfl, rfl⟩ (Nat.le_of_ble_eq_true rfl) (x_recv_9 h9) ?_
  exact ex_icw rfl (fun _ => kk I2 L2 hR2) (fun h => absurd rfl h)
set_option maxRecDepth 100000 in
theorem law_of {sc : List Int} {I : Nat → Nat → Int} {L : Nat → Nat → Int64} {Q : Option xPV → xMem → Prop} {j : Nat} {a : Nat → Int} (hl : sc.length < 100000) (hj : j + 6 ≤ sc.length) (ha : ∀ i, i < 6 → sc[j + i]? = some (a i) ∧ x_R (a i)) (hR : Rl I L) (kk : ∀ I' L', Rl I' L' → x_Ex sc 30 xM_law 1491 [(3, xi (↑j)), (2, xr 143), (1, xr 0), (0, xr 1000)] [] (xSH, I', L') Q) : x_Ex sc 30 xM_law 243 [(3, xi (↑j)), (2, xr 143), (1, xr 0), (0, xr 1000)] [] (xSH, I, L) Q := by
  refine ex_st 5 (pc' := 248) (ls' := [(3, xi (↑j)), (2, xr 143), (1, xr 0), (0, xr 1000)]) (st' := [xi (↑j + 1), xr 1000, xr 0]) rfl ?_
  refine ex_cald (j := j + 1) rfl (by decide) rfl (by omega) (by omega) hl (ha 1 (by decide)).1 ?_
  refine ex_st 4 (pc' := 253) (ls' := [(3, xi (↑j)), (2, xr 143), (1, xr 0), (0, xr 1000)]) (st' := [xi (↑j + 2), xr 1000, xi (a 1), xr 0]) rfl ?_
  refine ex_cald (j := j + 2) rfl (by decide) rfl (by omega) (by omega) hl (ha 2 (by decide)).1 ?_
  obtain ⟨z, m1, I2, L2, h1, h2, hR2, n9, rs9, h9⟩ := (op_of (sc := sc) hR (ha 1 (by decide)).2 (ha 2 (by decide)).2).int (M := xM_G_of) rfl rfl
  refine ex_call h1 (by decide) rfl ⟨rfl, rfl, rfl⟩ ⟨Nat.le_of_ble_eq_true rfl, rfl, rfl⟩ (Nat.le_of_ble_eq_true rfl) rfl ?_
  refine ex_st 5 (pc' := 262) (ls' := [(3, xi (↑j)), (2, xr 143), (1, xr 0), (0, xr 1000)]) (st' := [xi (↑j + 1), xr 1000, xr 143, xi z]) rfl ?_
  refine ex_cald (j := j + 1) rfl (by decide) rfl (by omega) (by omega) hl (ha 1 (by decide)).1 ?_
  refine ex_st 4 (pc' := 267) (ls' := [(3, xi (↑j)), (2, xr 143), (1, xr 0), (0, xr 1000)]) (st' := [xi (↑j + 2), xr 1000, xi (a 1), xr 143, xi z]) rfl ?_
  refine ex_cald (j := j + 2) rfl (by decide) rfl (by omega) (by omega) hl (ha 2 (by decide)).1 ?_
  refine ex_call h2 (by decide) rfl ⟨rfl, rfl, rfl⟩ ⟨Nat.le_of_ble_eq_true rfl, rfl, rfl⟩ (Nat.le_of_ble_eq_true rfl) (x_recv_9 h9) ?_
  exact ex_icw rfl (fun _ => kk I2 L2 hR2) (fun h => absurd rfl h)
set_option maxRecDepth 100000 in
theorem law_base {sc : List Int} {I : Nat → Nat → Int} {L : Nat → Nat → Int64} {Q : Option xPV → xMem → Prop} {j : Nat} {a : Nat → Int} (hl : sc.length < 100000) (hj : j + 6 ≤ sc.length) (ha : ∀ i, i < 6 → sc[j + i]? = some (a i) ∧ x_R (a i)) (hR : Rl I L) (kk : ∀ I' L', Rl I' L' → x_Ex sc 30 xM_law 1491 [(3, xi (↑j)), (2, xr 143), (1, xr 0), (0, xr 1000)] [] (xSH, I', L') Q) : x_Ex sc 30 xM_law 276 [(3, xi (↑j)), (2, xr 143), (1, xr 0), (0, xr 1000)] [] (xSH, I, L) Q := by
  refine ex_st 5 (pc' := 281) (ls' := [(3, xi (↑j)), (2, xr 143), (1, xr 0), (0, xr 1000)]) (st' := [xi (↑j + 1), xr 1000, xr 0]) rfl ?_
  refine ex_cald (j := j + 1) rfl (by decide) rfl (by omega) (by omega) hl (ha 1 (by decide)).1 ?_
  refine ex_st 4 (pc' := 286) (ls' := [(3, xi (↑j)), (2, xr 143), (1, xr 0), (0, xr 1000)]) (st' := [xi (↑j + 2), xr 1000, xi (a 1), xr 0]) rfl ?_
  refine ex_cald (j := j + 2) rfl (by decide) rfl (by omega) (by omega) hl (ha 2 (by decide)).1 ?_
  refine ex_st 4 (pc' := 291) (ls' := [(3, xi (↑j)), (2, xr 143), (1, xr 0), (0, xr 1000)]) (st' := [xi (↑j + 3), xr 1000, xi (a 2), xi (a 1), xr 0]) rfl ?_
  refine ex_cald (j := j + 3) rfl (by decide) rfl (by omega) (by omega) hl (ha 3 (by decide)).1 ?_
  obtain ⟨z, m1, I2, L2, h1, h2, hR2, n9, rs9, h9⟩ := (op_base (sc := sc) hR (ha 1 (by decide)).2 (ha 2 (by decide)).2 (ha 3 (by decide)).2).int (M := xM_G_base) rfl rfl
  refine ex_call h1 (by decide) rfl ⟨rfl, rfl, rfl⟩ ⟨Nat.le_of_ble_eq_true rfl, rfl, rfl⟩ (Nat.le_of_ble_eq_true rfl) rfl ?_
  refine ex_st 5 (pc' := 300) (ls' := [(3, xi (↑j)), (2, xr 143), (1, xr 0), (0, xr 1000)]) (st' := [xi (↑j + 1), xr 1000, xr 143, xi z]) rfl ?_
  refine ex_cald (j := j + 1) rfl (by decide) rfl (by omega) (by omega) hl (ha 1 (by decide)).1 ?_
  refine ex_st 4 (pc' := 305) (ls' := [(3, xi (↑j)), (2, xr 143), (1, xr 0), (0, xr 1000)]) (st' := [xi (↑j + 2), xr 1000, xi (a 1), xr 143, xi z]) rfl ?_
  refine ex_cald (j := j + 2) rfl (by decide) rfl (by omega) (by omega) hl (ha 2 (by decide)).1 ?_
  refine ex_st 4 (pc' := 310) (ls' := [(3, xi (↑j)), (2, xr 143), (1, xr 0), (0, xr 1000)]) (st' := [xi (↑j + 3), xr 1000, xi (a 2), xi (a 1), xr 143, xi z]) rfl ?_
  refine ex_cald (j := j + 3) rfl (by decide) rfl (by omega) (by omega) hl (ha 3 (by decide)).1 ?_
  refine ex_call h2 (by decide) rfl ⟨rfl, rfl, rfl⟩ ⟨Nat.le_of_ble_eq_true rfl, rfl, rfl⟩ (Nat.le_of_ble_eq_true rfl) (x_recv_9 h9) ?_
  exact ex_icw rfl (fun _ => kk I2 L2 hR2) (fun h => absurd rfl h)
set_option maxRecDepth 100000 in
theorem law_votes {sc : List Int} {I : Nat → Nat → Int} {L : Nat → Nat → Int64} {Q : Option xPV → xMem → Prop} {j : Nat} {a : Nat → Int} (hl : sc.length < 100000) (hj : j + 6 ≤ sc.length) (ha : ∀ i, i < 6 → sc[j + i]? = some (a i) ∧ x_R (a i)) (hR : Rl I L) (kk : ∀ I' L', Rl I' L' → x_Ex sc 30 xM_law 1491 [(3, xi (↑j)), (2, xr 143), (1, xr 0), (0, xr 1000)] [] (xSH, I', L') Q) : x_Ex sc 30 xM_law 319 [(3, xi (↑j)), (2, xr 143), (1, xr 0), (0, xr 1000)] [] (xSH, I, L) Q := by
  refine ex_st 5 (pc' := 324) (ls' := [(3, xi (↑j)), (2, xr 143), (1, xr 0), (0, xr 1000)]) (st' := [xi (↑j + 1), xr 1000, xr 0]) rfl ?_
  refine ex_cald (j := j + 1) rfl (by decide) rfl (by omega) (by omega) hl (ha 1 (by decide)).1 ?_
  refine ex_st 4 (pc' := 329) (ls' := [(3, xi (↑j)), (2, xr 143), (1, xr 0), (0, xr 1000)]) (st' := [xi (↑j + 2), xr 1000, xi (a 1), xr 0]) rfl ?_
  refine ex_cald (j := j + 2) rfl (by decide) rfl (by omega) (by omega) hl (ha 2 (by decide)).1 ?_
  obtain ⟨z, m1, I2, L2, h1, h2, hR2, n9, rs9, h9⟩ := (op_votes (sc := sc) hR (ha 1 (by decide)).2 (ha 2 (by decide)).2).int (M := xM_G_votes) rfl rfl
  refine ex_call h1 (by decide) rfl ⟨rfl, rfl, rfl⟩ ⟨Nat.le_of_ble_eq_true rfl, rfl, rfl⟩ (Nat.le_of_ble_eq_true rfl) rfl ?_
  refine ex_st 5 (pc' := 338) (ls' := [(3, xi (↑j)), (2, xr 143), (1, xr 0), (0, xr 1000)]) (st' := [xi (↑j + 1), xr 1000, xr 143, xi z]) rfl ?_
  refine ex_cald (j := j + 1) rfl (by decide) rfl (by omega) (by omega) hl (ha 1 (by decide)).1 ?_
  refine ex_st 4 (pc' := 343) (ls' := [(3, xi (↑j)), (2, xr 143), (1, xr 0), (0, xr 1000)]) (st' := [xi (↑j + 2), xr 1000, xi (a 1), xr 143, xi z]) rfl ?_
  refine ex_cald (j := j + 2) rfl (by decide) rfl (by omega) (by omega) hl (ha 2 (by decide)).1 ?_
  refine ex_call h2 (by decide) rfl ⟨rfl, rfl, rfl⟩ ⟨Nat.le_of_ble_eq_true rfl, rfl, rfl⟩ (Nat.le_of_ble_eq_true rfl) (x_recv_9 h9) ?_
  exact ex_icw rfl (fun _ => kk I2 L2 hR2) (fun h => absurd rfl h)
set_option maxRecDepth 100000 in
theorem law_away {sc : List Int} {I : Nat → Nat → Int} {L : Nat → Nat → Int64} {Q : Option xPV → xMem → Prop} {j : Nat} {a : Nat → Int} (hl : sc.length < 100000) (hj : j + 6 ≤ sc.length) (ha : ∀ i, i < 6 → sc[j + i]? = some (a i) ∧ x_R (a i)) (hR : Rl I L) (kk : ∀ I' L', Rl I' L' → x_Ex sc 30 xM_law 1491 [(3, xi (↑j)), (2, xr 143), (1, xr 0), (0, xr 1000)] [] (xSH, I', L') Q) : x_Ex sc 30 xM_law 352 [(3, xi (↑j)), (2, xr 143), (1, xr 0), (0, xr 1000)] [] (xSH, I, L) Q := by
  obtain ⟨b, hb⟩ : ∃ b : Int, b = if a 2 = 0 then 0 else 1 := ⟨_, rfl⟩
  have hb01 : b = 0 ∨ b = 1 := by rw [hb]; split; exact Or.inl rfl; exact Or.inr rfl
  refine ex_st 5 (pc' := 357) (ls' := [(3, xi (↑j)), (2, xr 143), (1, xr 0), (0, xr 1000)]) (st' := [xi (↑j + 1), xr 1000, xr 0]) rfl ?_
  refine ex_cald (j := j + 1) rfl (by decide) rfl (by omega) (by omega) hl (ha 1 (by decide)).1 ?_
  refine ex_st 4 (pc' := 362) (ls' := [(3, xi (↑j)), (2, xr 143), (1, xr 0), (0, xr 1000)]) (st' := [xi (↑j + 2), xr 1000, xi (a 1), xr 0]) rfl ?_
  refine ex_cald (j := j + 2) rfl (by decide) rfl (by omega) (by omega) hl (ha 2 (by decide)).1 ?_
  refine (?_ : x_Ex sc 30 xM_law 371 [(3, xi (↑j)), (2, xr 143), (1, xr 0), (0, xr 1000)] [xi b, xi (a 1), xr 0] (xSH, I, L) Q → x_Ex sc 30 xM_law 363 [(3, xi (↑j)), (2, xr 143), (1, xr 0), (0, xr 1000)] [xi (a 2), xi (a 1), xr 0] (xSH, I, L) Q) ?_
  · intro hh
    refine ex_if rfl (ha 2 (by decide)).2 (fun (h0 : a 2 = 0) => ?_) (fun (h0 : ¬ a 2 = 0) => ?_)
    · rw [if_pos h0] at hb; subst hb
      exact ex_st 1 (pc' := 371) (ls' := [(3, xi (↑j)), (2, xr 143), (1, xr 0), (0, xr 1000)]) (st' := [xi 0, xi (a 1), xr 0]) rfl hh
    · rw [if_neg h0] at hb; subst hb
      exact ex_st 2 (pc' := 371) (ls' := [(3, xi (↑j)), (2, xr 143), (1, xr 0), (0, xr 1000)]) (st' := [xi 1, xi (a 1), xr 0]) rfl hh
  obtain ⟨z, m1, I2, L2, h1, h2, hR2, n9, rs9, h9⟩ := (op_away (sc := sc) hR (ha 1 (by decide)).2 hb01).int (M := xM_G_away) rfl rfl
  refine ex_call h1 (by decide) rfl ⟨rfl, rfl, rfl⟩ ⟨Nat.le_of_ble_eq_true rfl, rfl, rfl⟩ (Nat.le_of_ble_eq_true rfl) rfl ?_
  refine ex_st 5 (pc' := 379) (ls' := [(3, xi (↑j)), (2, xr 143), (1, xr 0), (0, xr 1000)]) (st' := [xi (↑j + 1), xr 1000, xr 143, xi z]) rfl ?_
  refine ex_cald (j := j + 1) rfl (by decide) rfl (by omega) (by omega) hl (ha 1 (by decide)).1 ?_
  refine ex_st 4 (pc' := 384) (ls' := [(3, xi (↑j)), (2, xr 143), (1, xr 0), (0, xr 1000)]) (st' := [xi (↑j + 2), xr 1000, xi (a 1), xr 143, xi z]) rfl ?_
  refine ex_cald (j := j + 2) rfl (by decide) rfl (by omega) (by omega) hl (ha 2 (by decide)).1 ?_
  refine (?_ : x_Ex sc 30 xM_law 393 [(3, xi (↑j)), (2, xr 143), (1, xr 0), (0, xr 1000)] [xi b, xi (a 1), xr 143, xi z] m1 Q → x_Ex sc 30 xM_law 385 [(3, xi (↑j)), (2, xr 143), (1, xr 0), (0, xr 1000)] [xi (a 2), xi (a 1), xr 143, xi z] m1 Q) ?_
  · intro hh
    refine ex_if rfl (ha 2 (by decide)).2 (fun (h0 : a 2 = 0) => ?_) (fun (h0 : ¬ a 2 = 0) => ?_)
    · rw [if_pos h0] at hb; subst hb
      exact ex_st 1 (pc' := 393) (ls' := [(3, xi (↑j)), (2, xr 143), (1, xr 0), (0, xr 1000)]) (st' := [xi 0, xi (a 1), xr 143, xi z]) rfl hh
    · rw [if_neg h0] at hb; subst hb
      exact ex_st 2 (pc' := 393) (ls' := [(3, xi (↑j)), (2, xr 143), (1, xr 0), (0, xr 1000)]) (st' := [xi 1, xi (a 1), xr 143, xi z]) rfl hh
  refine ex_call h2 (by decide) rfl ⟨rfl, rfl, rfl⟩ ⟨Nat.le_of_ble_eq_true rfl, rfl, rfl⟩ (Nat.le_of_ble_eq_true rfl) (x_recv_9 h9) ?_
  exact ex_icw rfl (fun _ => kk I2 L2 hR2) (fun h => absurd rfl h)
set_option maxRecDepth 100000 in
theorem law_put {sc : List Int} {I : Nat → Nat → Int} {L : Nat → Nat → Int64} {Q : Option xPV → xMem → Prop} {j : Nat} {a : Nat → Int} (hl : sc.length < 100000) (hj : j + 6 ≤ sc.length) (ha : ∀ i, i < 6 → sc[j + i]? = some (a i) ∧ x_R (a i)) (hR : Rl I L) (kk : ∀ I' L', Rl I' L' → x_Ex sc 30 xM_law 1491 [(3, xi (↑j)), (2, xr 143), (1, xr 0), (0, xr 1000)] [] (xSH, I', L') Q) : x_Ex sc 30 xM_law 401 [(3, xi (↑j)), (2, xr 143), (1, xr 0), (0, xr 1000)] [] (xSH, I, L) Q := by
  refine ex_st 5 (pc' := 406) (ls' := [(3, xi (↑j)), (2, xr 143), (1, xr 0), (0, xr 1000)]) (st' := [xi (↑j + 1), xr 1000, xr 0]) rfl ?_
  refine ex_cald (j := j + 1) rfl (by decide) rfl (by omega) (by omega) hl (ha 1 (by decide)).1 ?_
  obtain ⟨z, m1, I2, L2, h1, h2, hR2, n9, rs9, h9⟩ := (op_put (sc := sc) hR (ha 1 (by decide)).2).int (M := xM_G_put) rfl rfl
  refine ex_call h1 (by decide) rfl ⟨rfl, rfl, rfl⟩ ⟨Nat.le_of_ble_eq_true rfl, rfl, rfl⟩ (Nat.le_of_ble_eq_true rfl) rfl ?_
  refine ex_st 5 (pc' := 415) (ls' := [(3, xi (↑j)), (2, xr 143), (1, xr 0), (0, xr 1000)]) (st' := [xi (↑j + 1), xr 1000, xr 143, xi z]) rfl ?_
  refine ex_cald (j := j + 1) rfl (by decide) rfl (by omega) (by omega) hl (ha 1 (by decide)).1 ?_
  refine ex_call h2 (by decide) rfl ⟨rfl, rfl, rfl⟩ ⟨Nat.le_of_ble_eq_true rfl, rfl, rfl⟩ (Nat.le_of_ble_eq_true rfl) (x_recv_9 h9) ?_
  exact ex_icw rfl (fun _ => kk I2 L2 hR2) (fun h => absurd rfl h)
set_option maxRecDepth 100000 in
theorem law_egg {sc : List Int} {I : Nat → Nat → Int} {L : Nat → Nat → Int64} {Q : Option xPV → xMem → Prop} {j : Nat} {a : Nat → Int} (hl : sc.length < 100000) (hj : j + 6 ≤ sc.length) (ha : ∀ i, i < 6 → sc[j + i]? = some (a i) ∧ x_R (a i)) (hR : Rl I L) (kk : ∀ I' L', Rl I' L' → x_Ex sc 30 xM_law 1491 [(3, xi (↑j)), (2, xr 143), (1, xr 0), (0, xr 1000)] [] (xSH, I', L') Q) : x_Ex sc 30 xM_law 424 [(3, xi (↑j)), (2, xr 143), (1, xr 0), (0, xr 1000)] [] (xSH, I, L) Q := by
  refine ex_st 5 (pc' := 429) (ls' := [(3, xi (↑j)), (2, xr 143), (1, xr 0), (0, xr 1000)]) (st' := [xi (↑j + 1), xr 1000, xr 0]) rfl ?_
  refine ex_cald (j := j + 1) rfl (by decide) rfl (by omega) (by omega) hl (ha 1 (by decide)).1 ?_
  obtain ⟨z, m1, I2, L2, h1, h2, hR2, n9, rs9, h9⟩ := (op_egg (sc := sc) hR (ha 1 (by decide)).2).int (M := xM_G_egg) rfl rfl
  refine ex_call h1 (by decide) rfl ⟨rfl, rfl, rfl⟩ ⟨Nat.le_of_ble_eq_true rfl, rfl, rfl⟩ (Nat.le_of_ble_eq_true rfl) rfl ?_
  refine ex_st 5 (pc' := 438) (ls' := [(3, xi (↑j)), (2, xr 143), (1, xr 0), (0, xr 1000)]) (st' := [xi (↑j + 1), xr 1000, xr 143, xi z]) rfl ?_
  refine ex_cald (j := j + 1) rfl (by decide) rfl (by omega) (by omega) hl (ha 1 (by decide)).1 ?_
  refine ex_call h2 (by decide) rfl ⟨rfl, rfl, rfl⟩ ⟨Nat.le_of_ble_eq_true rfl, rfl, rfl⟩ (Nat.le_of_ble_eq_true rfl) (x_recv_9 h9) ?_
  exact ex_icw rfl (fun _ => kk I2 L2 hR2) (fun h => absurd rfl h)
set_option maxRecDepth 100000 in
theorem law_row {sc : List Int} {I : Nat → Nat → Int} {L : Nat → Nat → Int64} {Q : Option xPV → xMem → Prop} {j : Nat} {a : Nat → Int} (hl : sc.length < 100000) (hj : j + 6 ≤ sc.length) (ha : ∀ i, i < 6 → sc[j + i]? = some (a i) ∧ x_R (a i)) (hR : Rl I L) (kk : ∀ I' L', Rl I' L' → x_Ex sc 30 xM_law 1491 [(3, xi (↑j)), (2, xr 143), (1, xr 0), (0, xr 1000)] [] (xSH, I', L') Q) : x_Ex sc 30 xM_law 447 [(3, xi (↑j)), (2, xr 143), (1, xr 0), (0, xr 1000)] [] (xSH, I, L) Q := by
  refine ex_st 5 (pc' := 452) (ls' := [(3, xi (↑j)), (2, xr 143), (1, xr 0), (0, xr 1000)]) (st' := [xi (↑j + 1), xr 1000, xr 0]) rfl ?_
  refine ex_cald (j := j + 1) rfl (by decide) rfl (by omega) (by omega) hl (ha 1 (by decide)).1 ?_
  refine ex_st 4 (pc' := 457) (ls' := [(3, xi (↑j)), (2, xr 143), (1, xr 0), (0, xr 1000)]) (st' := [xi (↑j + 2), xr 1000, xi (a 1), xr 0]) rfl ?_
  refine ex_cald (j := j + 2) rfl (by decide) rfl (by omega) (by omega) hl (ha 2 (by decide)).1 ?_
  refine ex_st 4 (pc' := 462) (ls' := [(3, xi (↑j)), (2, xr 143), (1, xr 0), (0, xr 1000)]) (st' := [xi (↑j + 3), xr 1000, xi (a 2), xi (a 1), xr 0]) rfl ?_
  refine ex_cald (j := j + 3) rfl (by decide) rfl (by omega) (by omega) hl (ha 3 (by decide)).1 ?_
  obtain ⟨z, m1, I2, L2, h1, h2, hR2, n9, rs9, h9⟩ := (op_row (sc := sc) hR (ha 1 (by decide)).2 (ha 2 (by decide)).2 (ha 3 (by decide)).2).int (M := xM_G_row) rfl rfl
  refine ex_call h1 (by decide) rfl ⟨rfl, rfl, rfl⟩ ⟨Nat.le_of_ble_eq_true rfl, rfl, rfl⟩ (Nat.le_of_ble_eq_true rfl) rfl ?_
  refine ex_st 5 (pc' := 471) (ls' := [(3, xi (↑j)), (2, xr 143), (1, xr 0), (0, xr 1000)]) (st' := [xi (↑j + 1), xr 1000, xr 143, xi z]) rfl ?_
  refine ex_cald (j := j + 1) rfl (by decide) rfl (by omega) (by omega) hl (ha 1 (by decide)).1 ?_
  refine ex_st 4 (pc' := 476) (ls' := [(3, xi (↑j)), (2, xr 143), (1, xr 0), (0, xr 1000)]) (st' := [xi (↑j + 2), xr 1000, xi (a 1), xr 143, xi z]) rfl ?_
  refine ex_cald (j := j + 2) rfl (by decide) rfl (by omega) (by omega) hl (ha 2 (by decide)).1 ?_
  refine ex_st 4 (pc' := 481) (ls' := [(3, xi (↑j)), (2, xr 143), (1, xr 0), (0, xr 1000)]) (st' := [xi (↑j + 3), xr 1000, xi (a 2), xi (a 1), xr 143, xi z]) rfl ?_
  refine ex_cald (j := j + 3) rfl (by decide) rfl (by omega) (by omega) hl (ha 3 (by decide)).1 ?_
  refine ex_call h2 (by decide) rfl ⟨rfl, rfl, rfl⟩ ⟨Nat.le_of_ble_eq_true rfl, rfl, rfl⟩ (Nat.le_of_ble_eq_true rfl) (x_recv_9 h9) ?_
  exact ex_icw rfl (fun _ => kk I2 L2 hR2) (fun h => absurd rfl h)
set_option maxRecDepth 100000 in
theorem law_feed {sc : List Int} {I : Nat → Nat → Int} {L : Nat → Nat → Int64} {Q : Option xPV → xMem → Prop} {j : Nat} {a : Nat → Int} (hl : sc.length < 100000) (hj : j + 6 ≤ sc.length) (ha : ∀ i, i < 6 → sc[j + i]? = some (a i) ∧ x_R (a i)) (hR : Rl I L) (kk : ∀ I' L', Rl I' L' → x_Ex sc 30 xM_law 1491 [(3, xi (↑j)), (2, xr 143), (1, xr 0), (0, xr 1000)] [] (xSH, I', L') Q) : x_Ex sc 30 xM_law 490 [(3, xi (↑j)), (2, xr 143), (1, xr 0), (0, xr 1000)] [] (xSH, I, L) Q := by
  refine ex_st 5 (pc' := 495) (ls' := [(3, xi (↑j)), (2, xr 143), (1, xr 0), (0, xr 1000)]) (st' := [xi (↑j + 1), xr 1000, xr 0]) rfl ?_
  refine ex_cald (j := j + 1) rfl (by decide) rfl (by omega) (by omega) hl (ha 1 (by decide)).1 ?_
  obtain ⟨z, m1, I2, L2, h1, h2, hR2, n9, rs9, h9⟩ := (op_feed (sc := sc) hR (ha 1 (by decide)).2).int (M := xM_G_feed) rfl rfl
  refine ex_call h1 (by decide) rfl ⟨rfl, rfl, rfl⟩ ⟨Nat.le_of_ble_eq_true rfl, rfl, rfl⟩ (Nat.le_of_ble_eq_true rfl) rfl ?_
  refine ex_st 5 (pc' := 504) (ls' := [(3, xi (↑j)), (2, xr 143), (1, xr 0), (0, xr 1000)]) (st' := [xi (↑j + 1), xr 1000, xr 143, xi z]) rfl ?_
  refine ex_cald (j := j + 1) rfl (by decide) rfl (by omega) (by omega) hl (ha 1 (by decide)).1 ?_
  refine ex_call h2 (by decide) rfl ⟨rfl, rfl, rfl⟩ ⟨Nat.le_of_ble_eq_true rfl, rfl, rfl⟩ (Nat.le_of_ble_eq_true rfl) (x_recv_9 h9) ?_
  exact ex_icw rfl (fun _ => kk I2 L2 hR2) (fun h => absurd rfl h)
set_option maxRecDepth 100000 in
theorem law_treaty {sc : List Int} {I : Nat → Nat → Int} {L : Nat → Nat → Int64} {Q : Option xPV → xMem → Prop} {j : Nat} {a : Nat → Int} (hl : sc.length < 100000) (hj : j + 6 ≤ sc.length) (ha : ∀ i, i < 6 → sc[j + i]? = some (a i) ∧ x_R (a i)) (hR : Rl I L) (kk : ∀ I' L', Rl I' L' → x_Ex sc 30 xM_law 1491 [(3, xi (↑j)), (2, xr 143), (1, xr 0), (0, xr 1000)] [] (xSH, I', L') Q) : x_Ex sc 30 xM_law 513 [(3, xi (↑j)), (2, xr 143), (1, xr 0), (0, xr 1000)] [] (xSH, I, L) Q := by
  refine ex_st 1 (pc' := 514) (ls' := [(3, xi (↑j)), (2, xr 143), (1, xr 0), (0, xr 1000)]) (st' := [xr 0]) rfl ?_
  obtain ⟨z, m1, I2, L2, h1, h2, hR2, n9, rs9, h9⟩ := (op_treaty (sc := sc) hR).int (M := xM_G_treaty) rfl rfl
  refine ex_call h1 (by decide) rfl ⟨rfl, rfl, rfl⟩ ⟨Nat.le_of_ble_eq_true rfl, rfl, rfl⟩ (Nat.le_of_ble_eq_true rfl) rfl ?_
  refine ex_st 1 (pc' := 518) (ls' := [(3, xi (↑j)), (2, xr 143), (1, xr 0), (0, xr 1000)]) (st' := [xr 143, xi z]) rfl ?_
  refine ex_call h2 (by decide) rfl ⟨rfl, rfl, rfl⟩ ⟨Nat.le_of_ble_eq_true rfl, rfl, rfl⟩ (Nat.le_of_ble_eq_true rfl) (x_recv_9 h9) ?_
  exact ex_icw rfl (fun _ => kk I2 L2 hR2) (fun h => absurd rfl h)
set_option maxRecDepth 100000 in
theorem law_told {sc : List Int} {I : Nat → Nat → Int} {L : Nat → Nat → Int64} {Q : Option xPV → xMem → Prop} {j : Nat} {a : Nat → Int} (hl : sc.length < 100000) (hj : j + 6 ≤ sc.length) (ha : ∀ i, i < 6 → sc[j + i]? = some (a i) ∧ x_R (a i)) (hR : Rl I L) (kk : ∀ I' L', Rl I' L' → x_Ex sc 30 xM_law 1491 [(3, xi (↑j)), (2, xr 143), (1, xr 0), (0, xr 1000)] [] (xSH, I', L') Q) : x_Ex sc 30 xM_law 526 [(3, xi (↑j)), (2, xr 143), (1, xr 0), (0, xr 1000)] [] (xSH, I, L) Q := by
  refine ex_st 5 (pc' := 531) (ls' := [(3, xi (↑j)), (2, xr 143), (1, xr 0), (0, xr 1000)]) (st' := [xi (↑j + 1), xr 1000, xr 0]) rfl ?_
  refine ex_cald (j := j + 1) rfl (by decide) rfl (by omega) (by omega) hl (ha 1 (by decide)).1 ?_
  obtain ⟨z, m1, I2, L2, h1, h2, hR2, n9, rs9, h9⟩ := (op_told (sc := sc) hR (ha 1 (by decide)).2).int (M := xM_G_told) rfl rfl
  refine ex_call h1 (by decide) rfl ⟨rfl, rfl, rfl⟩ ⟨Nat.le_of_ble_eq_true rfl, rfl, rfl⟩ (Nat.le_of_ble_eq_true rfl) rfl ?_
  refine ex_st 5 (pc' := 540) (ls' := [(3, xi (↑j)), (2, xr 143), (1, xr 0), (0, xr 1000)]) (st' := [xi (↑j + 1), xr 1000, xr 143, xi z]) rfl ?_
  refine ex_cald (j := j + 1) rfl (by decide) rfl (by omega) (by omega) hl (ha 1 (by decide)).1 ?_
  refine ex_call h2 (by decide) rfl ⟨rfl, rfl, rfl⟩ ⟨Nat.le_of_ble_eq_true rfl, rfl, rfl⟩ (Nat.le_of_ble_eq_true rfl) (x_recv_9 h9) ?_
  exact ex_icw rfl (fun _ => kk I2 L2 hR2) (fun h => absurd rfl h)
set_option maxRecDepth 100000 in
theorem law_against {sc : List Int} {I : Nat → Nat → Int} {L : Nat → Nat → Int64} {Q : Option xPV → xMem → Prop} {j : Nat} {a : Nat → Int} (hl : sc.length < 100000) (hj : j + 6 ≤ sc.length) (ha : ∀ i, i < 6 → sc[j + i]? = some (a i) ∧ x_R (a i)) (hR : Rl I L) (kk : ∀ I' L', Rl I' L' → x_Ex sc 30 xM_law 1491 [(3, xi (↑j)), (2, xr 143), (1, xr 0), (0, xr 1000)] [] (xSH, I', L') Q) : x_Ex sc 30 xM_law 549 [(3, xi (↑j)), (2, xr 143), (1, xr 0), (0, xr 1000)] [] (xSH, I, L) Q := by
  refine ex_st 5 (pc' := 554) (ls' := [(3, xi (↑j)), (2, xr 143), (1, xr 0), (0, xr 1000)]) (st' := [xi (↑j + 1), xr 1000, xr 0]) rfl ?_
  refine ex_cald (j := j + 1) rfl (by decide) rfl (by omega) (by omega) hl (ha 1 (by decide)).1 ?_
  refine ex_st 4 (pc' := 559) (ls' := [(3, xi (↑j)), (2, xr 143), (1, xr 0), (0, xr 1000)]) (st' := [xi (↑j + 2), xr 1000, xi (a 1), xr 0]) rfl ?_
  refine ex_cald (j := j + 2) rfl (by decide) rfl (by omega) (by omega) hl (ha 2 (by decide)).1 ?_
  refine ex_st 4 (pc' := 564) (ls' := [(3, xi (↑j)), (2, xr 143), (1, xr 0), (0, xr 1000)]) (st' := [xi (↑j + 3), xr 1000, xi (a 2), xi (a 1), xr 0]) rfl ?_
  refine ex_cald (j := j + 3) rfl (by decide) rfl (by omega) (by omega) hl (ha 3 (by decide)).1 ?_
  obtain ⟨z, m1, I2, L2, h1, h2, hR2, n9, rs9, h9⟩ := (op_against (sc := sc) hR (ha 1 (by decide)).2 (ha 2 (by decide)).2 (ha 3 (by decide)).2).int (M := xM_G_against) rfl rfl
  refine ex_call h1 (by decide) rfl ⟨rfl, rfl, rfl⟩ ⟨Nat.le_of_ble_eq_true rfl, rfl, rfl⟩ (Nat.le_of_ble_eq_true rfl) rfl ?_
  refine ex_st 5 (pc' := 573) (ls' := [(3, xi (↑j)), (2, xr 143), (1, xr 0), (0, xr 1000)]) (st' := [xi (↑j + 1), xr 1000, xr 143, xi z]) rfl ?_
  refine ex_cald (j := j + 1) rfl (by decide) rfl (by omega) (by omega) hl (ha 1 (by decide)).1 ?_
  refine ex_st 4 (pc' := 578) (ls' := [(3, xi (↑j)), (2, xr 143), (1, xr 0), (0, xr 1000)]) (st' := [xi (↑j + 2), xr 1000, xi (a 1), xr 143, xi z]) rfl ?_
  refine ex_cald (j := j + 2) rfl (by decide) rfl (by omega) (by omega) hl (ha 2 (by decide)).1 ?_
  refine ex_st 4 (pc' := 583) (ls' := [(3, xi (↑j)), (2, xr 143), (1, xr 0), (0, xr 1000)]) (st' := [xi (↑j + 3), xr 1000, xi (a 2), xi (a 1), xr 143, xi z]) rfl ?_
  refine ex_cald (j := j + 3) rfl (by decide) rfl (by omega) (by omega) hl (ha 3 (by decide)).1 ?_
  refine ex_call h2 (by decide) rfl ⟨rfl, rfl, rfl⟩ ⟨Nat.le_of_ble_eq_true rfl, rfl, rfl⟩ (Nat.le_of_ble_eq_true rfl) (x_recv_9 h9) ?_
  exact ex_icw rfl (fun _ => kk I2 L2 hR2) (fun h => absurd rfl h)
set_option maxRecDepth 100000 in
theorem law_pass {sc : List Int} {I : Nat → Nat → Int} {L : Nat → Nat → Int64} {Q : Option xPV → xMem → Prop} {j : Nat} {a : Nat → Int} (hl : sc.length < 100000) (hj : j + 6 ≤ sc.length) (ha : ∀ i, i < 6 → sc[j + i]? = some (a i) ∧ x_R (a i)) (hR : Rl I L) (kk : ∀ I' L', Rl I' L' → x_Ex sc 30 xM_law 1491 [(3, xi (↑j)), (2, xr 143), (1, xr 0), (0, xr 1000)] [] (xSH, I', L') Q) : x_Ex sc 30 xM_law 592 [(3, xi (↑j)), (2, xr 143), (1, xr 0), (0, xr 1000)] [] (xSH, I, L) Q := by
  refine ex_st 5 (pc' := 597) (ls' := [(3, xi (↑j)), (2, xr 143), (1, xr 0), (0, xr 1000)]) (st' := [xi (↑j + 1), xr 1000, xr 0]) rfl ?_
  refine ex_cald (j := j + 1) rfl (by decide) rfl (by omega) (by omega) hl (ha 1 (by decide)).1 ?_
  obtain ⟨z, m1, I2, L2, h1, h2, hR2, n9, rs9, h9⟩ := (op_pass (sc := sc) hR (ha 1 (by decide)).2).int (M := xM_G_pass) rfl rfl
  refine ex_call h1 (by decide) rfl ⟨rfl, rfl, rfl⟩ ⟨Nat.le_of_ble_eq_true rfl, rfl, rfl⟩ (Nat.le_of_ble_eq_true rfl) rfl ?_
  refine ex_st 5 (pc' := 606) (ls' := [(3, xi (↑j)), (2, xr 143), (1, xr 0), (0, xr 1000)]) (st' := [xi (↑j + 1), xr 1000, xr 143, xi z]) rfl ?_
  refine ex_cald (j := j + 1) rfl (by decide) rfl (by omega) (by omega) hl (ha 1 (by decide)).1 ?_
  refine ex_call h2 (by decide) rfl ⟨rfl, rfl, rfl⟩ ⟨Nat.le_of_ble_eq_true rfl, rfl, rfl⟩ (Nat.le_of_ble_eq_true rfl) (x_recv_9 h9) ?_
  exact ex_icw rfl (fun _ => kk I2 L2 hR2) (fun h => absurd rfl h)
set_option maxRecDepth 100000 in
theorem law_on {sc : List Int} {I : Nat → Nat → Int} {L : Nat → Nat → Int64} {Q : Option xPV → xMem → Prop} {j : Nat} {a : Nat → Int} (hl : sc.length < 100000) (hj : j + 6 ≤ sc.length) (ha : ∀ i, i < 6 → sc[j + i]? = some (a i) ∧ x_R (a i)) (hR : Rl I L) (kk : ∀ I' L', Rl I' L' → x_Ex sc 30 xM_law 1491 [(3, xi (↑j)), (2, xr 143), (1, xr 0), (0, xr 1000)] [] (xSH, I', L') Q) : x_Ex sc 30 xM_law 615 [(3, xi (↑j)), (2, xr 143), (1, xr 0), (0, xr 1000)] [] (xSH, I, L) Q := by
  refine ex_st 5 (pc' := 620) (ls' := [(3, xi (↑j)), (2, xr 143), (1, xr 0), (0, xr 1000)]) (st' := [xi (↑j + 1), xr 1000, xr 0]) rfl ?_
  refine ex_cald (j := j + 1) rfl (by decide) rfl (by omega) (by omega) hl (ha 1 (by decide)).1 ?_
  refine ex_st 4 (pc' := 625) (ls' := [(3, xi (↑j)), (2, xr 143), (1, xr 0), (0, xr 1000)]) (st' := [xi (↑j + 2), xr 1000, xi (a 1), xr 0]) rfl ?_
  refine ex_cald (j := j + 2) rfl (by decide) rfl (by omega) (by omega) hl (ha 2 (by decide)).1 ?_
  obtain ⟨z, m1, I2, L2, h1, h2, hR2, n9, rs9, h9⟩ := (op_on (sc := sc) hR (ha 1 (by decide)).2 (ha 2 (by decide)).2).int (M := xM_G_on) rfl rfl
  refine ex_call h1 (by decide) rfl ⟨rfl, rfl, rfl⟩ ⟨Nat.le_of_ble_eq_true rfl, rfl, rfl⟩ (Nat.le_of_ble_eq_true rfl) rfl ?_
  refine ex_st 5 (pc' := 634) (ls' := [(3, xi (↑j)), (2, xr 143), (1, xr 0), (0, xr 1000)]) (st' := [xi (↑j + 1), xr 1000, xr 143, xi z]) rfl ?_
  refine ex_cald (j := j + 1) rfl (by decide) rfl (by omega) (by omega) hl (ha 1 (by decide)).1 ?_
  refine ex_st 4 (pc' := 639) (ls' := [(3, xi (↑j)), (2, xr 143), (1, xr 0), (0, xr 1000)]) (st' := [xi (↑j + 2), xr 1000, xi (a 1), xr 143, xi z]) rfl ?_
  refine ex_cald (j := j + 2) rfl (by decide) rfl (by omega) (by omega) hl (ha 2 (by decide)).1 ?_
  refine ex_call h2 (by decide) rfl ⟨rfl, rfl, rfl⟩ ⟨Nat.le_of_ble_eq_true rfl, rfl, rfl⟩ (Nat.le_of_ble_eq_true rfl) (x_recv_9 h9) ?_
  exact ex_icw rfl (fun _ => kk I2 L2 hR2) (fun h => absurd rfl h)
set_option maxRecDepth 100000 in
theorem law_agenda {sc : List Int} {I : Nat → Nat → Int} {L : Nat → Nat → Int64} {Q : Option xPV → xMem → Prop} {j : Nat} {a : Nat → Int} (hl : sc.length < 100000) (hj : j + 6 ≤ sc.length) (ha : ∀ i, i < 6 → sc[j + i]? = some (a i) ∧ x_R (a i)) (hR : Rl I L) (kk : ∀ I' L', Rl I' L' → x_Ex sc 30 xM_law 1491 [(3, xi (↑j)), (2, xr 143), (1, xr 0), (0, xr 1000)] [] (xSH, I', L') Q) : x_Ex sc 30 xM_law 648 [(3, xi (↑j)), (2, xr 143), (1, xr 0), (0, xr 1000)] [] (xSH, I, L) Q := by
  refine ex_st 5 (pc' := 653) (ls' := [(3, xi (↑j)), (2, xr 143), (1, xr 0), (0, xr 1000)]) (st' := [xi (↑j + 1), xr 1000, xr 0]) rfl ?_
  refine ex_cald (j := j + 1) rfl (by decide) rfl (by omega) (by omega) hl (ha 1 (by decide)).1 ?_
  refine ex_st 4 (pc' := 658) (ls' := [(3, xi (↑j)), (2, xr 143), (1, xr 0), (0, xr 1000)]) (st' := [xi (↑j + 2), xr 1000, xi (a 1), xr 0]) rfl ?_
  refine ex_cald (j := j + 2) rfl (by decide) rfl (by omega) (by omega) hl (ha 2 (by decide)).1 ?_
  obtain ⟨z, m1, I2, L2, h1, h2, hR2, n9, rs9, h9⟩ := (op_agenda (sc := sc) hR (ha 1 (by decide)).2 (ha 2 (by decide)).2).int (M := xM_G_agenda) rfl rfl
  refine ex_call h1 (by decide) rfl ⟨rfl, rfl, rfl⟩ ⟨Nat.le_of_ble_eq_true rfl, rfl, rfl⟩ (Nat.le_of_ble_eq_true rfl) rfl ?_
  refine ex_st 5 (pc' := 667) (ls' := [(3, xi (↑j)), (2, xr 143), (1, xr 0), (0, xr 1000)]) (st' := [xi (↑j + 1), xr 1000, xr 143, xi z]) rfl ?_
  refine ex_cald (j := j + 1) rfl (by decide) rfl (by omega) (by omega) hl (ha 1 (by decide)).1 ?_
  refine ex_st 4 (pc' := 672) (ls' := [(3, xi (↑j)), (2, xr 143), (1, xr 0), (0, xr 1000)]) (st' := [xi (↑j + 2), xr 1000, xi (a 1), xr 143, xi z]) rfl ?_
  refine ex_cald (j := j + 2) rfl (by decide) rfl (by omega) (by omega) hl (ha 2 (by decide)).1 ?_
  refine ex_call h2 (by decide) rfl ⟨rfl, rfl, rfl⟩ ⟨Nat.le_of_ble_eq_true rfl, rfl, rfl⟩ (Nat.le_of_ble_eq_true rfl) (x_recv_9 h9) ?_
  exact ex_icw rfl (fun _ => kk I2 L2 hR2) (fun h => absurd rfl h)
set_option maxRecDepth 100000 in
theorem law_bribe {sc : List Int} {I : Nat → Nat → Int} {L : Nat → Nat → Int64} {Q : Option xPV → xMem → Prop} {j : Nat} {a : Nat → Int} (hl : sc.length < 100000) (hj : j + 6 ≤ sc.length) (ha : ∀ i, i < 6 → sc[j + i]? = some (a i) ∧ x_R (a i)) (hR : Rl I L) (kk : ∀ I' L', Rl I' L' → x_Ex sc 30 xM_law 1491 [(3, xi (↑j)), (2, xr 143), (1, xr 0), (0, xr 1000)] [] (xSH, I', L') Q) : x_Ex sc 30 xM_law 681 [(3, xi (↑j)), (2, xr 143), (1, xr 0), (0, xr 1000)] [] (xSH, I, L) Q := by
  refine ex_st 5 (pc' := 686) (ls' := [(3, xi (↑j)), (2, xr 143), (1, xr 0), (0, xr 1000)]) (st' := [xi (↑j + 1), xr 1000, xr 0]) rfl ?_
  refine ex_cald (j := j + 1) rfl (by decide) rfl (by omega) (by omega) hl (ha 1 (by decide)).1 ?_
  obtain ⟨z, m1, I2, L2, h1, h2, hR2, n9, rs9, h9⟩ := (op_bribe (sc := sc) hR (ha 1 (by decide)).2).int (M := xM_G_bribe) rfl rfl
  refine ex_call h1 (by decide) rfl ⟨rfl, rfl, rfl⟩ ⟨Nat.le_of_ble_eq_true rfl, rfl, rfl⟩ (Nat.le_of_ble_eq_true rfl) rfl ?_
  refine ex_st 5 (pc' := 695) (ls' := [(3, xi (↑j)), (2, xr 143), (1, xr 0), (0, xr 1000)]) (st' := [xi (↑j + 1), xr 1000, xr 143, xi z]) rfl ?_
  refine ex_cald (j := j + 1) rfl (by decide) rfl (by omega) (by omega) hl (ha 1 (by decide)).1 ?_
  refine ex_call h2 (by decide) rfl ⟨rfl, rfl, rfl⟩ ⟨Nat.le_of_ble_eq_true rfl, rfl, rfl⟩ (Nat.le_of_ble_eq_true rfl) (x_recv_9 h9) ?_
  exact ex_icw rfl (fun _ => kk I2 L2 hR2) (fun h => absurd rfl h)
set_option maxRecDepth 100000 in
theorem law_odds {sc : List Int} {I : Nat → Nat → Int} {L : Nat → Nat → Int64} {Q : Option xPV → xMem → Prop} {j : Nat} {a : Nat → Int} (hl : sc.length < 100000) (hj : j + 6 ≤ sc.length) (ha : ∀ i, i < 6 → sc[j + i]? = some (a i) ∧ x_R (a i)) (hR : Rl I L) (kk : ∀ I' L', Rl I' L' → x_Ex sc 30 xM_law 1491 [(3, xi (↑j)), (2, xr 143), (1, xr 0), (0, xr 1000)] [] (xSH, I', L') Q) : x_Ex sc 30 xM_law 704 [(3, xi (↑j)), (2, xr 143), (1, xr 0), (0, xr 1000)] [] (xSH, I, L) Q := by
  refine ex_st 5 (pc' := 709) (ls' := [(3, xi (↑j)), (2, xr 143), (1, xr 0), (0, xr 1000)]) (st' := [xi (↑j + 1), xr 1000, xr 0]) rfl ?_
  refine ex_cald (j := j + 1) rfl (by decide) rfl (by omega) (by omega) hl (ha 1 (by decide)).1 ?_
  refine ex_st 4 (pc' := 714) (ls' := [(3, xi (↑j)), (2, xr 143), (1, xr 0), (0, xr 1000)]) (st' := [xi (↑j + 2), xr 1000, xi (a 1), xr 0]) rfl ?_
  refine ex_cald (j := j + 2) rfl (by decide) rfl (by omega) (by omega) hl (ha 2 (by decide)).1 ?_
  obtain ⟨z, m1, I2, L2, h1, h2, hR2, n9, rs9, h9⟩ := (op_odds (sc := sc) hR (ha 1 (by decide)).2 (ha 2 (by decide)).2).lng (M := xM_G_odds) rfl rfl
  refine ex_call h1 (by decide) rfl ⟨rfl, rfl, rfl⟩ ⟨Nat.le_of_ble_eq_true rfl, rfl, rfl⟩ (Nat.le_of_ble_eq_true rfl) rfl ?_
  refine ex_st 5 (pc' := 723) (ls' := [(3, xi (↑j)), (2, xr 143), (1, xr 0), (0, xr 1000)]) (st' := [xi (↑j + 1), xr 1000, xr 143, xl z]) rfl ?_
  refine ex_cald (j := j + 1) rfl (by decide) rfl (by omega) (by omega) hl (ha 1 (by decide)).1 ?_
  refine ex_st 4 (pc' := 728) (ls' := [(3, xi (↑j)), (2, xr 143), (1, xr 0), (0, xr 1000)]) (st' := [xi (↑j + 2), xr 1000, xi (a 1), xr 143, xl z]) rfl ?_
  refine ex_cald (j := j + 2) rfl (by decide) rfl (by omega) (by omega) hl (ha 2 (by decide)).1 ?_
  refine ex_call h2 (by decide) rfl ⟨rfl, rfl, rfl⟩ ⟨Nat.le_of_ble_eq_true rfl, rfl, rfl⟩ (Nat.le_of_ble_eq_true rfl) (x_recv_9 h9) ?_
  refine ex_st 1 (pc' := 733) (ls' := [(3, xi (↑j)), (2, xr 143), (1, xr 0), (0, xr 1000)]) (st' := [xi (lg_cmp z z).toInt]) rfl ?_
  exact ex_ifw rfl (fun _ => kk I2 L2 hR2) (fun h => absurd (lg_cmp_self z) h)
set_option maxRecDepth 100000 in
theorem law_power {sc : List Int} {I : Nat → Nat → Int} {L : Nat → Nat → Int64} {Q : Option xPV → xMem → Prop} {j : Nat} {a : Nat → Int} (hl : sc.length < 100000) (hj : j + 6 ≤ sc.length) (ha : ∀ i, i < 6 → sc[j + i]? = some (a i) ∧ x_R (a i)) (hR : Rl I L) (kk : ∀ I' L', Rl I' L' → x_Ex sc 30 xM_law 1491 [(3, xi (↑j)), (2, xr 143), (1, xr 0), (0, xr 1000)] [] (xSH, I', L') Q) : x_Ex sc 30 xM_law 738 [(3, xi (↑j)), (2, xr 143), (1, xr 0), (0, xr 1000)] [] (xSH, I, L) Q := by
  refine ex_st 5 (pc' := 743) (ls' := [(3, xi (↑j)), (2, xr 143), (1, xr 0), (0, xr 1000)]) (st' := [xi (↑j + 1), xr 1000, xr 0]) rfl ?_
  refine ex_cald (j := j + 1) rfl (by decide) rfl (by omega) (by omega) hl (ha 1 (by decide)).1 ?_
  refine ex_st 4 (pc' := 748) (ls' := [(3, xi (↑j)), (2, xr 143), (1, xr 0), (0, xr 1000)]) (st' := [xi (↑j + 2), xr 1000, xi (a 1), xr 0]) rfl ?_
  refine ex_cald (j := j + 2) rfl (by decide) rfl (by omega) (by omega) hl (ha 2 (by decide)).1 ?_
  obtain ⟨z, m1, I2, L2, h1, h2, hR2, n9, rs9, h9⟩ := (op_power (sc := sc) hR (ha 1 (by decide)).2 (ha 2 (by decide)).2).lng (M := xM_G_power) rfl rfl
  refine ex_call h1 (by decide) rfl ⟨rfl, rfl, rfl⟩ ⟨Nat.le_of_ble_eq_true rfl, rfl, rfl⟩ (Nat.le_of_ble_eq_true rfl) rfl ?_
  refine ex_st 5 (pc' := 757) (ls' := [(3, xi (↑j)), (2, xr 143), (1, xr 0), (0, xr 1000)]) (st' := [xi (↑j + 1), xr 1000, xr 143, xl z]) rfl ?_
  refine ex_cald (j := j + 1) rfl (by decide) rfl (by omega) (by omega) hl (ha 1 (by decide)).1 ?_
  refine ex_st 4 (pc' := 762) (ls' := [(3, xi (↑j)), (2, xr 143), (1, xr 0), (0, xr 1000)]) (st' := [xi (↑j + 2), xr 1000, xi (a 1), xr 143, xl z]) rfl ?_
  refine ex_cald (j := j + 2) rfl (by decide) rfl (by omega) (by omega) hl (ha 2 (by decide)).1 ?_
  refine ex_call h2 (by decide) rfl ⟨rfl, rfl, rfl⟩ ⟨Nat.le_of_ble_eq_true rfl, rfl, rfl⟩ (Nat.le_of_ble_eq_true rfl) (x_recv_9 h9) ?_
  refine ex_st 1 (pc' := 767) (ls' := [(3, xi (↑j)), (2, xr 143), (1, xr 0), (0, xr 1000)]) (st' := [xi (lg_cmp z z).toInt]) rfl ?_
  exact ex_ifw rfl (fun _ => kk I2 L2 hR2) (fun h => absurd (lg_cmp_self z) h)
set_option maxRecDepth 100000 in
theorem law_pivot {sc : List Int} {I : Nat → Nat → Int} {L : Nat → Nat → Int64} {Q : Option xPV → xMem → Prop} {j : Nat} {a : Nat → Int} (hl : sc.length < 100000) (hj : j + 6 ≤ sc.length) (ha : ∀ i, i < 6 → sc[j + i]? = some (a i) ∧ x_R (a i)) (hR : Rl I L) (kk : ∀ I' L', Rl I' L' → x_Ex sc 30 xM_law 1491 [(3, xi (↑j)), (2, xr 143), (1, xr 0), (0, xr 1000)] [] (xSH, I', L') Q) : x_Ex sc 30 xM_law 772 [(3, xi (↑j)), (2, xr 143), (1, xr 0), (0, xr 1000)] [] (xSH, I, L) Q := by
  refine ex_st 5 (pc' := 777) (ls' := [(3, xi (↑j)), (2, xr 143), (1, xr 0), (0, xr 1000)]) (st' := [xi (↑j + 1), xr 1000, xr 0]) rfl ?_
  refine ex_cald (j := j + 1) rfl (by decide) rfl (by omega) (by omega) hl (ha 1 (by decide)).1 ?_
  refine ex_st 4 (pc' := 782) (ls' := [(3, xi (↑j)), (2, xr 143), (1, xr 0), (0, xr 1000)]) (st' := [xi (↑j + 2), xr 1000, xi (a 1), xr 0]) rfl ?_
  refine ex_cald (j := j + 2) rfl (by decide) rfl (by omega) (by omega) hl (ha 2 (by decide)).1 ?_
  obtain ⟨z, m1, I2, L2, h1, h2, hR2, n9, rs9, h9⟩ := (op_pivot (sc := sc) hR (ha 1 (by decide)).2 (ha 2 (by decide)).2).lng (M := xM_G_pivot) rfl rfl
  refine ex_call h1 (by decide) rfl ⟨rfl, rfl, rfl⟩ ⟨Nat.le_of_ble_eq_true rfl, rfl, rfl⟩ (Nat.le_of_ble_eq_true rfl) rfl ?_
  refine ex_st 5 (pc' := 791) (ls' := [(3, xi (↑j)), (2, xr 143), (1, xr 0), (0, xr 1000)]) (st' := [xi (↑j + 1), xr 1000, xr 143, xl z]) rfl ?_
  refine ex_cald (j := j + 1) rfl (by decide) rfl (by omega) (by omega) hl (ha 1 (by decide)).1 ?_
  refine ex_st 4 (pc' := 796) (ls' := [(3, xi (↑j)), (2, xr 143), (1, xr 0), (0, xr 1000)]) (st' := [xi (↑j + 2), xr 1000, xi (a 1), xr 143, xl z]) rfl ?_
  refine ex_cald (j := j + 2) rfl (by decide) rfl (by omega) (by omega) hl (ha 2 (by decide)).1 ?_
  refine ex_call h2 (by decide) rfl ⟨rfl, rfl, rfl⟩ ⟨Nat.le_of_ble_eq_true rfl, rfl, rfl⟩ (Nat.le_of_ble_eq_true rfl) (x_recv_9 h9) ?_
  refine ex_st 1 (pc' := 801) (ls' := [(3, xi (↑j)), (2, xr 143), (1, xr 0), (0, xr 1000)]) (st' := [xi (lg_cmp z z).toInt]) rfl ?_
  exact ex_ifw rfl (fun _ => kk I2 L2 hR2) (fun h => absurd (lg_cmp_self z) h)
set_option maxRecDepth 100000 in
theorem law_mean {sc : List Int} {I : Nat → Nat → Int} {L : Nat → Nat → Int64} {Q : Option xPV → xMem → Prop} {j : Nat} {a : Nat → Int} (hl : sc.length < 100000) (hj : j + 6 ≤ sc.length) (ha : ∀ i, i < 6 → sc[j + i]? = some (a i) ∧ x_R (a i)) (hR : Rl I L) (kk : ∀ I' L', Rl I' L' → x_Ex sc 30 xM_law 1491 [(3, xi (↑j)), (2, xr 143), (1, xr 0), (0, xr 1000)] [] (xSH, I', L') Q) : x_Ex sc 30 xM_law 806 [(3, xi (↑j)), (2, xr 143), (1, xr 0), (0, xr 1000)] [] (xSH, I, L) Q := by
  refine ex_st 5 (pc' := 811) (ls' := [(3, xi (↑j)), (2, xr 143), (1, xr 0), (0, xr 1000)]) (st' := [xi (↑j + 1), xr 1000, xr 0]) rfl ?_
  refine ex_cald (j := j + 1) rfl (by decide) rfl (by omega) (by omega) hl (ha 1 (by decide)).1 ?_
  refine ex_st 4 (pc' := 816) (ls' := [(3, xi (↑j)), (2, xr 143), (1, xr 0), (0, xr 1000)]) (st' := [xi (↑j + 2), xr 1000, xi (a 1), xr 0]) rfl ?_
  refine ex_cald (j := j + 2) rfl (by decide) rfl (by omega) (by omega) hl (ha 2 (by decide)).1 ?_
  obtain ⟨z, m1, I2, L2, h1, h2, hR2, n9, rs9, h9⟩ := (op_mean (sc := sc) hR (ha 1 (by decide)).2 (ha 2 (by decide)).2).lng (M := xM_G_mean) rfl rfl
  refine ex_call h1 (by decide) rfl ⟨rfl, rfl, rfl⟩ ⟨Nat.le_of_ble_eq_true rfl, rfl, rfl⟩ (Nat.le_of_ble_eq_true rfl) rfl ?_
  refine ex_st 5 (pc' := 825) (ls' := [(3, xi (↑j)), (2, xr 143), (1, xr 0), (0, xr 1000)]) (st' := [xi (↑j + 1), xr 1000, xr 143, xl z]) rfl ?_
  refine ex_cald (j := j + 1) rfl (by decide) rfl (by omega) (by omega) hl (ha 1 (by decide)).1 ?_
  refine ex_st 4 (pc' := 830) (ls' := [(3, xi (↑j)), (2, xr 143), (1, xr 0), (0, xr 1000)]) (st' := [xi (↑j + 2), xr 1000, xi (a 1), xr 143, xl z]) rfl ?_
  refine ex_cald (j := j + 2) rfl (by decide) rfl (by omega) (by omega) hl (ha 2 (by decide)).1 ?_
  refine ex_call h2 (by decide) rfl ⟨rfl, rfl, rfl⟩ ⟨Nat.le_of_ble_eq_true rfl, rfl, rfl⟩ (Nat.le_of_ble_eq_true rfl) (x_recv_9 h9) ?_
  refine ex_st 1 (pc' := 835) (ls' := [(3, xi (↑j)), (2, xr 143), (1, xr 0), (0, xr 1000)]) (st' := [xi (lg_cmp z z).toInt]) rfl ?_
  exact ex_ifw rfl (fun _ => kk I2 L2 hR2) (fun h => absurd (lg_cmp_self z) h)
set_option maxRecDepth 100000 in
theorem law_see {sc : List Int} {I : Nat → Nat → Int} {L : Nat → Nat → Int64} {Q : Option xPV → xMem → Prop} {j : Nat} {a : Nat → Int} (hl : sc.length < 100000) (hj : j + 6 ≤ sc.length) (ha : ∀ i, i < 6 → sc[j + i]? = some (a i) ∧ x_R (a i)) (hR : Rl I L) (kk : ∀ I' L', Rl I' L' → x_Ex sc 30 xM_law 1491 [(3, xi (↑j)), (2, xr 143), (1, xr 0), (0, xr 1000)] [] (xSH, I', L') Q) : x_Ex sc 30 xM_law 840 [(3, xi (↑j)), (2, xr 143), (1, xr 0), (0, xr 1000)] [] (xSH, I, L) Q := by
  obtain ⟨b, hb⟩ : ∃ b : Int, b = if a 4 = 0 then 0 else 1 := ⟨_, rfl⟩
  have hb01 : b = 0 ∨ b = 1 := by rw [hb]; split; exact Or.inl rfl; exact Or.inr rfl
  refine ex_st 5 (pc' := 845) (ls' := [(3, xi (↑j)), (2, xr 143), (1, xr 0), (0, xr 1000)]) (st' := [xi (↑j + 1), xr 1000, xr 0]) rfl ?_
  refine ex_cald (j := j + 1) rfl (by decide) rfl (by omega) (by omega) hl (ha 1 (by decide)).1 ?_
  refine ex_st 4 (pc' := 850) (ls' := [(3, xi (↑j)), (2, xr 143), (1, xr 0), (0, xr 1000)]) (st' := [xi (↑j + 2), xr 1000, xi (a 1), xr 0]) rfl ?_
  refine ex_cald (j := j + 2) rfl (by decide) rfl (by omega) (by omega) hl (ha 2 (by decide)).1 ?_
  refine ex_st 4 (pc' := 855) (ls' := [(3, xi (↑j)), (2, xr 143), (1, xr 0), (0, xr 1000)]) (st' := [xi (↑j + 3), xr 1000, xi (a 2), xi (a 1), xr 0]) rfl ?_
  refine ex_cald (j := j + 3) rfl (by decide) rfl (by omega) (by omega) hl (ha 3 (by decide)).1 ?_
  refine ex_st 4 (pc' := 860) (ls' := [(3, xi (↑j)), (2, xr 143), (1, xr 0), (0, xr 1000)]) (st' := [xi (↑j + 4), xr 1000, xi (a 3), xi (a 2), xi (a 1), xr 0]) rfl ?_
  refine ex_cald (j := j + 4) rfl (by decide) rfl (by omega) (by omega) hl (ha 4 (by decide)).1 ?_
  refine (?_ : x_Ex sc 30 xM_law 869 [(3, xi (↑j)), (2, xr 143), (1, xr 0), (0, xr 1000)] [xi b, xi (a 3), xi (a 2), xi (a 1), xr 0] (xSH, I, L) Q → x_Ex sc 30 xM_law 861 [(3, xi (↑j)), (2, xr 143), (1, xr 0), (0, xr 1000)] [xi (a 4), xi (a 3), xi (a 2), xi (a 1), xr 0] (xSH, I, L) Q) ?_
  · intro hh
    refine ex_if rfl (ha 4 (by decide)).2 (fun (h0 : a 4 = 0) => ?_) (fun (h0 : ¬ a 4 = 0) => ?_)
    · rw [if_pos h0] at hb; subst hb
      exact ex_st 1 (pc' := 869) (ls' := [(3, xi (↑j)), (2, xr 143), (1, xr 0), (0, xr 1000)]) (st' := [xi 0, xi (a 3), xi (a 2), xi (a 1), xr 0]) rfl hh
    · rw [if_neg h0] at hb; subst hb
      exact ex_st 2 (pc' := 869) (ls' := [(3, xi (↑j)), (2, xr 143), (1, xr 0), (0, xr 1000)]) (st' := [xi 1, xi (a 3), xi (a 2), xi (a 1), xr 0]) rfl hh
  obtain ⟨z, m1, I2, L2, h1, h2, hR2, n9, rs9, h9⟩ := (op_see (sc := sc) hR (ha 1 (by decide)).2 (ha 2 (by decide)).2 (ha 3 (by decide)).2 hb01).int (M := xM_G_see) rfl rfl
  refine ex_call h1 (by decide) rfl ⟨rfl, rfl, rfl⟩ ⟨Nat.le_of_ble_eq_true rfl, rfl, rfl⟩ (Nat.le_of_ble_eq_true rfl) rfl ?_
  refine ex_st 5 (pc' := 877) (ls' := [(3, xi (↑j)), (2, xr 143), (1, xr 0), (0, xr 1000)]) (st' := [xi (↑j + 1), xr 1000, xr 143, xi z]) rfl ?_
  refine ex_cald (j := j + 1) rfl (by decide) rfl (by omega) (by omega) hl (ha 1 (by decide)).1 ?_
  refine ex_st 4 (pc' := 882) (ls' := [(3, xi (↑j)), (2, xr 143), (1, xr 0), (0, xr 1000)]) (st' := [xi (↑j + 2), xr 1000, xi (a 1), xr 143, xi z]) rfl ?_
  refine ex_cald (j := j + 2) rfl (by decide) rfl (by omega) (by omega) hl (ha 2 (by decide)).1 ?_
  refine ex_st 4 (pc' := 887) (ls' := [(3, xi (↑j)), (2, xr 143), (1, xr 0), (0, xr 1000)]) (st' := [xi (↑j + 3), xr 1000, xi (a 2), xi (a 1), xr 143, xi z]) rfl ?_
  refine ex_cald (j := j + 3) rfl (by decide) rfl (by omega) (by omega) hl (ha 3 (by decide)).1 ?_
  refine ex_st 4 (pc' := 892) (ls' := [(3, xi (↑j)), (2, xr 143), (1, xr 0), (0, xr 1000)]) (st' := [xi (↑j + 4), xr 1000, xi (a 3), xi (a 2), xi (a 1), xr 143, xi z]) rfl ?_
  refine ex_cald (j := j + 4) rfl (by decide) rfl (by omega) (by omega) hl (ha 4 (by decide)).1 ?_
  refine (?_ : x_Ex sc 30 xM_law 901 [(3, xi (↑j)), (2, xr 143), (1, xr 0), (0, xr 1000)] [xi b, xi (a 3), xi (a 2), xi (a 1), xr 143, xi z] m1 Q → x_Ex sc 30 xM_law 893 [(3, xi (↑j)), (2, xr 143), (1, xr 0), (0, xr 1000)] [xi (a 4), xi (a 3), xi (a 2), xi (a 1), xr 143, xi z] m1 Q) ?_
  · intro hh
    refine ex_if rfl (ha 4 (by decide)).2 (fun (h0 : a 4 = 0) => ?_) (fun (h0 : ¬ a 4 = 0) => ?_)
    · rw [if_pos h0] at hb; subst hb
      exact ex_st 1 (pc' := 901) (ls' := [(3, xi (↑j)), (2, xr 143), (1, xr 0), (0, xr 1000)]) (st' := [xi 0, xi (a 3), xi (a 2), xi (a 1), xr 143, xi z]) rfl hh
    · rw [if_neg h0] at hb; subst hb
      exact ex_st 2 (pc' := 901) (ls' := [(3, xi (↑j)), (2, xr 143), (1, xr 0), (0, xr 1000)]) (st' := [xi 1, xi (a 3), xi (a 2), xi (a 1), xr 143, xi z]) rfl hh
  refine ex_call h2 (by decide) rfl ⟨rfl, rfl, rfl⟩ ⟨Nat.le_of_ble_eq_true rfl, rfl, rfl⟩ (Nat.le_of_ble_eq_true rfl) (x_recv_9 h9) ?_
  exact ex_icw rfl (fun _ => kk I2 L2 hR2) (fun h => absurd rfl h)
set_option maxRecDepth 100000 in
theorem law_can {sc : List Int} {I : Nat → Nat → Int} {L : Nat → Nat → Int64} {Q : Option xPV → xMem → Prop} {j : Nat} {a : Nat → Int} (hl : sc.length < 100000) (hj : j + 6 ≤ sc.length) (ha : ∀ i, i < 6 → sc[j + i]? = some (a i) ∧ x_R (a i)) (hR : Rl I L) (kk : ∀ I' L', Rl I' L' → x_Ex sc 30 xM_law 1491 [(3, xi (↑j)), (2, xr 143), (1, xr 0), (0, xr 1000)] [] (xSH, I', L') Q) : x_Ex sc 30 xM_law 909 [(3, xi (↑j)), (2, xr 143), (1, xr 0), (0, xr 1000)] [] (xSH, I, L) Q := by
  refine ex_st 5 (pc' := 914) (ls' := [(3, xi (↑j)), (2, xr 143), (1, xr 0), (0, xr 1000)]) (st' := [xi (↑j + 1), xr 1000, xr 0]) rfl ?_
  refine ex_cald (j := j + 1) rfl (by decide) rfl (by omega) (by omega) hl (ha 1 (by decide)).1 ?_
  refine ex_st 4 (pc' := 919) (ls' := [(3, xi (↑j)), (2, xr 143), (1, xr 0), (0, xr 1000)]) (st' := [xi (↑j + 2), xr 1000, xi (a 1), xr 0]) rfl ?_
  refine ex_cald (j := j + 2) rfl (by decide) rfl (by omega) (by omega) hl (ha 2 (by decide)).1 ?_
  obtain ⟨z, m1, I2, L2, h1, h2, hR2, n9, rs9, h9⟩ := (op_can (sc := sc) hR (ha 1 (by decide)).2 (ha 2 (by decide)).2).int (M := xM_G_can) rfl rfl
  refine ex_call h1 (by decide) rfl ⟨rfl, rfl, rfl⟩ ⟨Nat.le_of_ble_eq_true rfl, rfl, rfl⟩ (Nat.le_of_ble_eq_true rfl) rfl ?_
  refine ex_st 5 (pc' := 928) (ls' := [(3, xi (↑j)), (2, xr 143), (1, xr 0), (0, xr 1000)]) (st' := [xi (↑j + 1), xr 1000, xr 143, xi z]) rfl ?_
  refine ex_cald (j := j + 1) rfl (by decide) rfl (by omega) (by omega) hl (ha 1 (by decide)).1 ?_
  refine ex_st 4 (pc' := 933) (ls' := [(3, xi (↑j)), (2, xr 143), (1, xr 0), (0, xr 1000)]) (st' := [xi (↑j + 2), xr 1000, xi (a 1), xr 143, xi z]) rfl ?_
  refine ex_cald (j := j + 2) rfl (by decide) rfl (by omega) (by omega) hl (ha 2 (by decide)).1 ?_
  refine ex_call h2 (by decide) rfl ⟨rfl, rfl, rfl⟩ ⟨Nat.le_of_ble_eq_true rfl, rfl, rfl⟩ (Nat.le_of_ble_eq_true rfl) (x_recv_9 h9) ?_
  exact ex_icw rfl (fun _ => kk I2 L2 hR2) (fun h => absurd rfl h)
set_option maxRecDepth 100000 in
theorem law_bases {sc : List Int} {I : Nat → Nat → Int} {L : Nat → Nat → Int64} {Q : Option xPV → xMem → Prop} {j : Nat} {a : Nat → Int} (hl : sc.length < 100000) (hj : j + 6 ≤ sc.length) (ha : ∀ i, i < 6 → sc[j + i]? = some (a i) ∧ x_R (a i)) (hR : Rl I L) (kk : ∀ I' L', Rl I' L' → x_Ex sc 30 xM_law 1491 [(3, xi (↑j)), (2, xr 143), (1, xr 0), (0, xr 1000)] [] (xSH, I', L') Q) : x_Ex sc 30 xM_law 942 [(3, xi (↑j)), (2, xr 143), (1, xr 0), (0, xr 1000)] [] (xSH, I, L) Q := by
  refine ex_st 5 (pc' := 947) (ls' := [(3, xi (↑j)), (2, xr 143), (1, xr 0), (0, xr 1000)]) (st' := [xi (↑j + 1), xr 1000, xr 0]) rfl ?_
  refine ex_cald (j := j + 1) rfl (by decide) rfl (by omega) (by omega) hl (ha 1 (by decide)).1 ?_
  refine ex_st 4 (pc' := 952) (ls' := [(3, xi (↑j)), (2, xr 143), (1, xr 0), (0, xr 1000)]) (st' := [xi (↑j + 2), xr 1000, xi (a 1), xr 0]) rfl ?_
  refine ex_cald (j := j + 2) rfl (by decide) rfl (by omega) (by omega) hl (ha 2 (by decide)).1 ?_
  refine ex_st 4 (pc' := 957) (ls' := [(3, xi (↑j)), (2, xr 143), (1, xr 0), (0, xr 1000)]) (st' := [xi (↑j + 3), xr 1000, xi (a 2), xi (a 1), xr 0]) rfl ?_
  refine ex_cald (j := j + 3) rfl (by decide) rfl (by omega) (by omega) hl (ha 3 (by decide)).1 ?_
  obtain ⟨z, m1, I2, L2, h1, h2, hR2, n9, rs9, h9⟩ := (op_bases (sc := sc) hR (ha 1 (by decide)).2 (ha 2 (by decide)).2 (ha 3 (by decide)).2).int (M := xM_G_bases) rfl rfl
  refine ex_call h1 (by decide) rfl ⟨rfl, rfl, rfl⟩ ⟨Nat.le_of_ble_eq_true rfl, rfl, rfl⟩ (Nat.le_of_ble_eq_true rfl) rfl ?_
  refine ex_st 5 (pc' := 966) (ls' := [(3, xi (↑j)), (2, xr 143), (1, xr 0), (0, xr 1000)]) (st' := [xi (↑j + 1), xr 1000, xr 143, xi z]) rfl ?_
  refine ex_cald (j := j + 1) rfl (by decide) rfl (by omega) (by omega) hl (ha 1 (by decide)).1 ?_
  refine ex_st 4 (pc' := 971) (ls' := [(3, xi (↑j)), (2, xr 143), (1, xr 0), (0, xr 1000)]) (st' := [xi (↑j + 2), xr 1000, xi (a 1), xr 143, xi z]) rfl ?_
  refine ex_cald (j := j + 2) rfl (by decide) rfl (by omega) (by omega) hl (ha 2 (by decide)).1 ?_
  refine ex_st 4 (pc' := 976) (ls' := [(3, xi (↑j)), (2, xr 143), (1, xr 0), (0, xr 1000)]) (st' := [xi (↑j + 3), xr 1000, xi (a 2), xi (a 1), xr 143, xi z]) rfl ?_
  refine ex_cald (j := j + 3) rfl (by decide) rfl (by omega) (by omega) hl (ha 3 (by decide)).1 ?_
  refine ex_call h2 (by decide) rfl ⟨rfl, rfl, rfl⟩ ⟨Nat.le_of_ble_eq_true rfl, rfl, rfl⟩ (Nat.le_of_ble_eq_true rfl) (x_recv_9 h9) ?_
  exact ex_icw rfl (fun _ => kk I2 L2 hR2) (fun h => absurd rfl h)
set_option maxRecDepth 100000 in
theorem law_plan {sc : List Int} {I : Nat → Nat → Int} {L : Nat → Nat → Int64} {Q : Option xPV → xMem → Prop} {j : Nat} {a : Nat → Int} (hl : sc.length < 100000) (hj : j + 6 ≤ sc.length) (ha : ∀ i, i < 6 → sc[j + i]? = some (a i) ∧ x_R (a i)) (hR : Rl I L) (kk : ∀ I' L', Rl I' L' → x_Ex sc 30 xM_law 1491 [(3, xi (↑j)), (2, xr 143), (1, xr 0), (0, xr 1000)] [] (xSH, I', L') Q) : x_Ex sc 30 xM_law 985 [(3, xi (↑j)), (2, xr 143), (1, xr 0), (0, xr 1000)] [] (xSH, I, L) Q := by
  refine ex_st 5 (pc' := 990) (ls' := [(3, xi (↑j)), (2, xr 143), (1, xr 0), (0, xr 1000)]) (st' := [xi (↑j + 1), xr 1000, xr 0]) rfl ?_
  refine ex_cald (j := j + 1) rfl (by decide) rfl (by omega) (by omega) hl (ha 1 (by decide)).1 ?_
  refine ex_st 4 (pc' := 995) (ls' := [(3, xi (↑j)), (2, xr 143), (1, xr 0), (0, xr 1000)]) (st' := [xi (↑j + 2), xr 1000, xi (a 1), xr 0]) rfl ?_
  refine ex_cald (j := j + 2) rfl (by decide) rfl (by omega) (by omega) hl (ha 2 (by decide)).1 ?_
  obtain ⟨z, m1, I2, L2, h1, h2, hR2, n9, rs9, h9⟩ := (op_plan (sc := sc) hR (ha 1 (by decide)).2 (ha 2 (by decide)).2).int (M := xM_G_plan) rfl rfl
  refine ex_call h1 (by decide) rfl ⟨rfl, rfl, rfl⟩ ⟨Nat.le_of_ble_eq_true rfl, rfl, rfl⟩ (Nat.le_of_ble_eq_true rfl) rfl ?_
  refine ex_st 5 (pc' := 1004) (ls' := [(3, xi (↑j)), (2, xr 143), (1, xr 0), (0, xr 1000)]) (st' := [xi (↑j + 1), xr 1000, xr 143, xi z]) rfl ?_
  refine ex_cald (j := j + 1) rfl (by decide) rfl (by omega) (by omega) hl (ha 1 (by decide)).1 ?_
  refine ex_st 4 (pc' := 1009) (ls' := [(3, xi (↑j)), (2, xr 143), (1, xr 0), (0, xr 1000)]) (st' := [xi (↑j + 2), xr 1000, xi (a 1), xr 143, xi z]) rfl ?_
  refine ex_cald (j := j + 2) rfl (by decide) rfl (by omega) (by omega) hl (ha 2 (by decide)).1 ?_
  refine ex_call h2 (by decide) rfl ⟨rfl, rfl, rfl⟩ ⟨Nat.le_of_ble_eq_true rfl, rfl, rfl⟩ (Nat.le_of_ble_eq_true rfl) (x_recv_9 h9) ?_
  exact ex_icw rfl (fun _ => kk I2 L2 hR2) (fun h => absurd rfl h)
set_option maxRecDepth 100000 in
theorem law_ends {sc : List Int} {I : Nat → Nat → Int} {L : Nat → Nat → Int64} {Q : Option xPV → xMem → Prop} {j : Nat} {a : Nat → Int} (hl : sc.length < 100000) (hj : j + 6 ≤ sc.length) (ha : ∀ i, i < 6 → sc[j + i]? = some (a i) ∧ x_R (a i)) (hR : Rl I L) (kk : ∀ I' L', Rl I' L' → x_Ex sc 30 xM_law 1491 [(3, xi (↑j)), (2, xr 143), (1, xr 0), (0, xr 1000)] [] (xSH, I', L') Q) : x_Ex sc 30 xM_law 1018 [(3, xi (↑j)), (2, xr 143), (1, xr 0), (0, xr 1000)] [] (xSH, I, L) Q := by
  refine ex_st 5 (pc' := 1023) (ls' := [(3, xi (↑j)), (2, xr 143), (1, xr 0), (0, xr 1000)]) (st' := [xi (↑j + 1), xr 1000, xr 0]) rfl ?_
  refine ex_cald (j := j + 1) rfl (by decide) rfl (by omega) (by omega) hl (ha 1 (by decide)).1 ?_
  obtain ⟨z, m1, I2, L2, h1, h2, hR2, n9, rs9, h9⟩ := (op_ends (sc := sc) hR (ha 1 (by decide)).2).int (M := xM_G_ends) rfl rfl
  refine ex_call h1 (by decide) rfl ⟨rfl, rfl, rfl⟩ ⟨Nat.le_of_ble_eq_true rfl, rfl, rfl⟩ (Nat.le_of_ble_eq_true rfl) rfl ?_
  refine ex_st 5 (pc' := 1032) (ls' := [(3, xi (↑j)), (2, xr 143), (1, xr 0), (0, xr 1000)]) (st' := [xi (↑j + 1), xr 1000, xr 143, xi z]) rfl ?_
  refine ex_cald (j := j + 1) rfl (by decide) rfl (by omega) (by omega) hl (ha 1 (by decide)).1 ?_
  refine ex_call h2 (by decide) rfl ⟨rfl, rfl, rfl⟩ ⟨Nat.le_of_ble_eq_true rfl, rfl, rfl⟩ (Nat.le_of_ble_eq_true rfl) (x_recv_9 h9) ?_
  exact ex_icw rfl (fun _ => kk I2 L2 hR2) (fun h => absurd rfl h)
set_option maxRecDepth 100000 in
theorem law_book {sc : List Int} {I : Nat → Nat → Int} {L : Nat → Nat → Int64} {Q : Option xPV → xMem → Prop} {j : Nat} {a : Nat → Int} (hl : sc.length < 100000) (hj : j + 6 ≤ sc.length) (ha : ∀ i, i < 6 → sc[j + i]? = some (a i) ∧ x_R (a i)) (hR : Rl I L) (kk : ∀ I' L', Rl I' L' → x_Ex sc 30 xM_law 1491 [(3, xi (↑j)), (2, xr 143), (1, xr 0), (0, xr 1000)] [] (xSH, I', L') Q) : x_Ex sc 30 xM_law 1041 [(3, xi (↑j)), (2, xr 143), (1, xr 0), (0, xr 1000)] [] (xSH, I, L) Q := by
  refine ex_st 5 (pc' := 1046) (ls' := [(3, xi (↑j)), (2, xr 143), (1, xr 0), (0, xr 1000)]) (st' := [xi (↑j + 1), xr 1000, xr 0]) rfl ?_
  refine ex_cald (j := j + 1) rfl (by decide) rfl (by omega) (by omega) hl (ha 1 (by decide)).1 ?_
  refine ex_st 4 (pc' := 1051) (ls' := [(3, xi (↑j)), (2, xr 143), (1, xr 0), (0, xr 1000)]) (st' := [xi (↑j + 2), xr 1000, xi (a 1), xr 0]) rfl ?_
  refine ex_cald (j := j + 2) rfl (by decide) rfl (by omega) (by omega) hl (ha 2 (by decide)).1 ?_
  refine ex_st 4 (pc' := 1056) (ls' := [(3, xi (↑j)), (2, xr 143), (1, xr 0), (0, xr 1000)]) (st' := [xi (↑j + 3), xr 1000, xi (a 2), xi (a 1), xr 0]) rfl ?_
  refine ex_cald (j := j + 3) rfl (by decide) rfl (by omega) (by omega) hl (ha 3 (by decide)).1 ?_
  obtain ⟨z, m1, I2, L2, h1, h2, hR2, n9, rs9, h9⟩ := (op_book (sc := sc) hR (ha 1 (by decide)).2 (ha 2 (by decide)).2 (ha 3 (by decide)).2).int (M := xM_G_book) rfl rfl
  refine ex_call h1 (by decide) rfl ⟨rfl, rfl, rfl⟩ ⟨Nat.le_of_ble_eq_true rfl, rfl, rfl⟩ (Nat.le_of_ble_eq_true rfl) rfl ?_
  refine ex_st 5 (pc' := 1065) (ls' := [(3, xi (↑j)), (2, xr 143), (1, xr 0), (0, xr 1000)]) (st' := [xi (↑j + 1), xr 1000, xr 143, xi z]) rfl ?_
  refine ex_cald (j := j + 1) rfl (by decide) rfl (by omega) (by omega) hl (ha 1 (by decide)).1 ?_
  refine ex_st 4 (pc' := 1070) (ls' := [(3, xi (↑j)), (2, xr 143), (1, xr 0), (0, xr 1000)]) (st' := [xi (↑j + 2), xr 1000, xi (a 1), xr 143, xi z]) rfl ?_
  refine ex_cald (j := j + 2) rfl (by decide) rfl (by omega) (by omega) hl (ha 2 (by decide)).1 ?_
  refine ex_st 4 (pc' := 1075) (ls' := [(3, xi (↑j)), (2, xr 143), (1, xr 0), (0, xr 1000)]) (st' := [xi (↑j + 3), xr 1000, xi (a 2), xi (a 1), xr 143, xi z]) rfl ?_
  refine ex_cald (j := j + 3) rfl (by decide) rfl (by omega) (by omega) hl (ha 3 (by decide)).1 ?_
  refine ex_call h2 (by decide) rfl ⟨rfl, rfl, rfl⟩ ⟨Nat.le_of_ble_eq_true rfl, rfl, rfl⟩ (Nat.le_of_ble_eq_true rfl) (x_recv_9 h9) ?_
  exact ex_icw rfl (fun _ => kk I2 L2 hR2) (fun h => absurd rfl h)
set_option maxRecDepth 100000 in
theorem law_looked {sc : List Int} {I : Nat → Nat → Int} {L : Nat → Nat → Int64} {Q : Option xPV → xMem → Prop} {j : Nat} {a : Nat → Int} (hl : sc.length < 100000) (hj : j + 6 ≤ sc.length) (ha : ∀ i, i < 6 → sc[j + i]? = some (a i) ∧ x_R (a i)) (hR : Rl I L) (kk : ∀ I' L', Rl I' L' → x_Ex sc 30 xM_law 1491 [(3, xi (↑j)), (2, xr 143), (1, xr 0), (0, xr 1000)] [] (xSH, I', L') Q) : x_Ex sc 30 xM_law 1084 [(3, xi (↑j)), (2, xr 143), (1, xr 0), (0, xr 1000)] [] (xSH, I, L) Q := by
  refine ex_st 1 (pc' := 1085) (ls' := [(3, xi (↑j)), (2, xr 143), (1, xr 0), (0, xr 1000)]) (st' := [xr 0]) rfl ?_
  obtain ⟨z, m1, I2, L2, h1, h2, hR2, n9, rs9, h9⟩ := (op_looked (sc := sc) hR).int (M := xM_G_looked) rfl rfl
  refine ex_call h1 (by decide) rfl ⟨rfl, rfl, rfl⟩ ⟨Nat.le_of_ble_eq_true rfl, rfl, rfl⟩ (Nat.le_of_ble_eq_true rfl) rfl ?_
  refine ex_st 1 (pc' := 1089) (ls' := [(3, xi (↑j)), (2, xr 143), (1, xr 0), (0, xr 1000)]) (st' := [xr 143, xi z]) rfl ?_
  refine ex_call h2 (by decide) rfl ⟨rfl, rfl, rfl⟩ ⟨Nat.le_of_ble_eq_true rfl, rfl, rfl⟩ (Nat.le_of_ble_eq_true rfl) (x_recv_9 h9) ?_
  exact ex_icw rfl (fun _ => kk I2 L2 hR2) (fun h => absurd rfl h)
set_option maxRecDepth 100000 in
theorem law_judge {sc : List Int} {I : Nat → Nat → Int} {L : Nat → Nat → Int64} {Q : Option xPV → xMem → Prop} {j : Nat} {a : Nat → Int} (hl : sc.length < 100000) (hj : j + 6 ≤ sc.length) (ha : ∀ i, i < 6 → sc[j + i]? = some (a i) ∧ x_R (a i)) (hR : Rl I L) (kk : ∀ I' L', Rl I' L' → x_Ex sc 30 xM_law 1491 [(3, xi (↑j)), (2, xr 143), (1, xr 0), (0, xr 1000)] [] (xSH, I', L') Q) : x_Ex sc 30 xM_law 1097 [(3, xi (↑j)), (2, xr 143), (1, xr 0), (0, xr 1000)] [] (xSH, I, L) Q := by
  refine ex_st 5 (pc' := 1102) (ls' := [(3, xi (↑j)), (2, xr 143), (1, xr 0), (0, xr 1000)]) (st' := [xi (↑j + 1), xr 1000, xr 0]) rfl ?_
  refine ex_cald (j := j + 1) rfl (by decide) rfl (by omega) (by omega) hl (ha 1 (by decide)).1 ?_
  refine ex_st 4 (pc' := 1107) (ls' := [(3, xi (↑j)), (2, xr 143), (1, xr 0), (0, xr 1000)]) (st' := [xi (↑j + 2), xr 1000, xi (a 1), xr 0]) rfl ?_
  refine ex_cald (j := j + 2) rfl (by decide) rfl (by omega) (by omega) hl (ha 2 (by decide)).1 ?_
  obtain ⟨z, m1, I2, L2, h1, h2, hR2, n9, rs9, h9⟩ := (op_judge (sc := sc) hR (ha 1 (by decide)).2 (ha 2 (by decide)).2).int (M := xM_G_judge) rfl rfl
  refine ex_call h1 (by decide) rfl ⟨rfl, rfl, rfl⟩ ⟨Nat.le_of_ble_eq_true rfl, rfl, rfl⟩ (Nat.le_of_ble_eq_true rfl) rfl ?_
  refine ex_st 5 (pc' := 1116) (ls' := [(3, xi (↑j)), (2, xr 143), (1, xr 0), (0, xr 1000)]) (st' := [xi (↑j + 1), xr 1000, xr 143, xi z]) rfl ?_
  refine ex_cald (j := j + 1) rfl (by decide) rfl (by omega) (by omega) hl (ha 1 (by decide)).1 ?_
  refine ex_st 4 (pc' := 1121) (ls' := [(3, xi (↑j)), (2, xr 143), (1, xr 0), (0, xr 1000)]) (st' := [xi (↑j + 2), xr 1000, xi (a 1), xr 143, xi z]) rfl ?_
  refine ex_cald (j := j + 2) rfl (by decide) rfl (by omega) (by omega) hl (ha 2 (by decide)).1 ?_
  refine ex_call h2 (by decide) rfl ⟨rfl, rfl, rfl⟩ ⟨Nat.le_of_ble_eq_true rfl, rfl, rfl⟩ (Nat.le_of_ble_eq_true rfl) (x_recv_9 h9) ?_
  exact ex_icw rfl (fun _ => kk I2 L2 hR2) (fun h => absurd rfl h)
set_option maxRecDepth 100000 in
theorem law_image {sc : List Int} {I : Nat → Nat → Int} {L : Nat → Nat → Int64} {Q : Option xPV → xMem → Prop} {j : Nat} {a : Nat → Int} (hl : sc.length < 100000) (hj : j + 6 ≤ sc.length) (ha : ∀ i, i < 6 → sc[j + i]? = some (a i) ∧ x_R (a i)) (hR : Rl I L) (kk : ∀ I' L', Rl I' L' → x_Ex sc 30 xM_law 1491 [(3, xi (↑j)), (2, xr 143), (1, xr 0), (0, xr 1000)] [] (xSH, I', L') Q) : x_Ex sc 30 xM_law 1130 [(3, xi (↑j)), (2, xr 143), (1, xr 0), (0, xr 1000)] [] (xSH, I, L) Q := by
  refine ex_st 1 (pc' := 1131) (ls' := [(3, xi (↑j)), (2, xr 143), (1, xr 0), (0, xr 1000)]) (st' := [xr 0]) rfl ?_
  obtain ⟨z, m1, I2, L2, h1, h2, hR2, n9, rs9, h9⟩ := (op_image (sc := sc) hR).int (M := xM_G_image) rfl rfl
  refine ex_call h1 (by decide) rfl ⟨rfl, rfl, rfl⟩ ⟨Nat.le_of_ble_eq_true rfl, rfl, rfl⟩ (Nat.le_of_ble_eq_true rfl) rfl ?_
  refine ex_st 1 (pc' := 1135) (ls' := [(3, xi (↑j)), (2, xr 143), (1, xr 0), (0, xr 1000)]) (st' := [xr 143, xi z]) rfl ?_
  refine ex_call h2 (by decide) rfl ⟨rfl, rfl, rfl⟩ ⟨Nat.le_of_ble_eq_true rfl, rfl, rfl⟩ (Nat.le_of_ble_eq_true rfl) (x_recv_9 h9) ?_
  exact ex_icw rfl (fun _ => kk I2 L2 hR2) (fun h => absurd rfl h)
set_option maxRecDepth 100000 in
theorem law_undo {sc : List Int} {I : Nat → Nat → Int} {L : Nat → Nat → Int64} {Q : Option xPV → xMem → Prop} {j : Nat} {a : Nat → Int} (hl : sc.length < 100000) (hj : j + 6 ≤ sc.length) (ha : ∀ i, i < 6 → sc[j + i]? = some (a i) ∧ x_R (a i)) (hR : Rl I L) (kk : ∀ I' L', Rl I' L' → x_Ex sc 30 xM_law 1491 [(3, xi (↑j)), (2, xr 143), (1, xr 0), (0, xr 1000)] [] (xSH, I', L') Q) : x_Ex sc 30 xM_law 1143 [(3, xi (↑j)), (2, xr 143), (1, xr 0), (0, xr 1000)] [] (xSH, I, L) Q := by
  refine ex_st 1 (pc' := 1144) (ls' := [(3, xi (↑j)), (2, xr 143), (1, xr 0), (0, xr 1000)]) (st' := [xr 0]) rfl ?_
  obtain ⟨z, m1, I2, L2, h1, h2, hR2, n9, rs9, h9⟩ := (op_undo (sc := sc) hR).int (M := xM_G_undo) rfl rfl
  refine ex_call h1 (by decide) rfl ⟨rfl, rfl, rfl⟩ ⟨Nat.le_of_ble_eq_true rfl, rfl, rfl⟩ (Nat.le_of_ble_eq_true rfl) rfl ?_
  refine ex_st 1 (pc' := 1148) (ls' := [(3, xi (↑j)), (2, xr 143), (1, xr 0), (0, xr 1000)]) (st' := [xr 143, xi z]) rfl ?_
  refine ex_call h2 (by decide) rfl ⟨rfl, rfl, rfl⟩ ⟨Nat.le_of_ble_eq_true rfl, rfl, rfl⟩ (Nat.le_of_ble_eq_true rfl) (x_recv_9 h9) ?_
  exact ex_icw rfl (fun _ => kk I2 L2 hR2) (fun h => absurd rfl h)
set_option maxRecDepth 100000 in
theorem law_act {sc : List Int} {I : Nat → Nat → Int} {L : Nat → Nat → Int64} {Q : Option xPV → xMem → Prop} {j : Nat} {a : Nat → Int} (hl : sc.length < 100000) (hj : j + 6 ≤ sc.length) (ha : ∀ i, i < 6 → sc[j + i]? = some (a i) ∧ x_R (a i)) (hR : Rl I L) (kk : ∀ I' L', Rl I' L' → x_Ex sc 30 xM_law 1491 [(3, xi (↑j)), (2, xr 143), (1, xr 0), (0, xr 1000)] [] (xSH, I', L') Q) : x_Ex sc 30 xM_law 1156 [(3, xi (↑j)), (2, xr 143), (1, xr 0), (0, xr 1000)] [] (xSH, I, L) Q := by
  refine ex_st 5 (pc' := 1161) (ls' := [(3, xi (↑j)), (2, xr 143), (1, xr 0), (0, xr 1000)]) (st' := [xi (↑j + 1), xr 1000, xr 0]) rfl ?_
  refine ex_cald (j := j + 1) rfl (by decide) rfl (by omega) (by omega) hl (ha 1 (by decide)).1 ?_
  refine ex_st 4 (pc' := 1166) (ls' := [(3, xi (↑j)), (2, xr 143), (1, xr 0), (0, xr 1000)]) (st' := [xi (↑j + 2), xr 1000, xi (a 1), xr 0]) rfl ?_
  refine ex_cald (j := j + 2) rfl (by decide) rfl (by omega) (by omega) hl (ha 2 (by decide)).1 ?_
  refine ex_st 4 (pc' := 1171) (ls' := [(3, xi (↑j)), (2, xr 143), (1, xr 0), (0, xr 1000)]) (st' := [xi (↑j + 3), xr 1000, xi (a 2), xi (a 1), xr 0]) rfl ?_
  refine ex_cald (j := j + 3) rfl (by decide) rfl (by omega) (by omega) hl (ha 3 (by decide)).1 ?_
  obtain ⟨z, m1, I2, L2, h1, h2, hR2, n9, rs9, h9⟩ := (op_act (sc := sc) (x := a 3) hR (ha 1 (by decide)).2 (ha 2 (by decide)).2).int (M := xM_G_act) rfl rfl
  refine ex_call h1 (by decide) rfl ⟨rfl, rfl, rfl⟩ ⟨Nat.le_of_ble_eq_true rfl, rfl, rfl⟩ (Nat.le_of_ble_eq_true rfl) rfl ?_
  refine ex_st 5 (pc' := 1180) (ls' := [(3, xi (↑j)), (2, xr 143), (1, xr 0), (0, xr 1000)]) (st' := [xi (↑j + 1), xr 1000, xr 143, xi z]) rfl ?_
  refine ex_cald (j := j + 1) rfl (by decide) rfl (by omega) (by omega) hl (ha 1 (by decide)).1 ?_
  refine ex_st 4 (pc' := 1185) (ls' := [(3, xi (↑j)), (2, xr 143), (1, xr 0), (0, xr 1000)]) (st' := [xi (↑j + 2), xr 1000, xi (a 1), xr 143, xi z]) rfl ?_
  refine ex_cald (j := j + 2) rfl (by decide) rfl (by omega) (by omega) hl (ha 2 (by decide)).1 ?_
  refine ex_st 4 (pc' := 1190) (ls' := [(3, xi (↑j)), (2, xr 143), (1, xr 0), (0, xr 1000)]) (st' := [xi (↑j + 3), xr 1000, xi (a 2), xi (a 1), xr 143, xi z]) rfl ?_
  refine ex_cald (j := j + 3) rfl (by decide) rfl (by omega) (by omega) hl (ha 3 (by decide)).1 ?_
  refine ex_call h2 (by decide) rfl ⟨rfl, rfl, rfl⟩ ⟨Nat.le_of_ble_eq_true rfl, rfl, rfl⟩ (Nat.le_of_ble_eq_true rfl) (x_recv_9 h9) ?_
  exact ex_icw rfl (fun _ => kk I2 L2 hR2) (fun h => absurd rfl h)
set_option maxRecDepth 100000 in
theorem law_trace {sc : List Int} {I : Nat → Nat → Int} {L : Nat → Nat → Int64} {Q : Option xPV → xMem → Prop} {j : Nat} {a : Nat → Int} (hl : sc.length < 100000) (hj : j + 6 ≤ sc.length) (ha : ∀ i, i < 6 → sc[j + i]? = some (a i) ∧ x_R (a i)) (hR : Rl I L) (kk : ∀ I' L', Rl I' L' → x_Ex sc 30 xM_law 1491 [(3, xi (↑j)), (2, xr 143), (1, xr 0), (0, xr 1000)] [] (xSH, I', L') Q) : x_Ex sc 30 xM_law 1199 [(3, xi (↑j)), (2, xr 143), (1, xr 0), (0, xr 1000)] [] (xSH, I, L) Q := by
  refine ex_st 5 (pc' := 1204) (ls' := [(3, xi (↑j)), (2, xr 143), (1, xr 0), (0, xr 1000)]) (st' := [xi (↑j + 1), xr 1000, xr 0]) rfl ?_
  refine ex_cald (j := j + 1) rfl (by decide) rfl (by omega) (by omega) hl (ha 1 (by decide)).1 ?_
  obtain ⟨z, m1, I2, L2, h1, h2, hR2, n9, rs9, h9⟩ := (op_trace (sc := sc) hR (ha 1 (by decide)).2).int (M := xM_G_trace) rfl rfl
  refine ex_call h1 (by decide) rfl ⟨rfl, rfl, rfl⟩ ⟨Nat.le_of_ble_eq_true rfl, rfl, rfl⟩ (Nat.le_of_ble_eq_true rfl) rfl ?_
  refine ex_st 5 (pc' := 1213) (ls' := [(3, xi (↑j)), (2, xr 143), (1, xr 0), (0, xr 1000)]) (st' := [xi (↑j + 1), xr 1000, xr 143, xi z]) rfl ?_
  refine ex_cald (j := j + 1) rfl (by decide) rfl (by omega) (by omega) hl (ha 1 (by decide)).1 ?_
  refine ex_call h2 (by decide) rfl ⟨rfl, rfl, rfl⟩ ⟨Nat.le_of_ble_eq_true rfl, rfl, rfl⟩ (Nat.le_of_ble_eq_true rfl) (x_recv_9 h9) ?_
  exact ex_icw rfl (fun _ => kk I2 L2 hR2) (fun h => absurd rfl h)
set_option maxRecDepth 100000 in
theorem law_taken {sc : List Int} {I : Nat → Nat → Int} {L : Nat → Nat → Int64} {Q : Option xPV → xMem → Prop} {j : Nat} {a : Nat → Int} (hl : sc.length < 100000) (hj : j + 6 ≤ sc.length) (ha : ∀ i, i < 6 → sc[j + i]? = some (a i) ∧ x_R (a i)) (hR : Rl I L) (kk : ∀ I' L', Rl I' L' → x_Ex sc 30 xM_law 1491 [(3, xi (↑j)), (2, xr 143), (1, xr 0), (0, xr 1000)] [] (xSH, I', L') Q) : x_Ex sc 30 xM_law 1222 [(3, xi (↑j)), (2, xr 143), (1, xr 0), (0, xr 1000)] [] (xSH, I, L) Q := by
  refine ex_st 5 (pc' := 1227) (ls' := [(3, xi (↑j)), (2, xr 143), (1, xr 0), (0, xr 1000)]) (st' := [xi (↑j + 1), xr 1000, xr 0]) rfl ?_
  refine ex_cald (j := j + 1) rfl (by decide) rfl (by omega) (by omega) hl (ha 1 (by decide)).1 ?_
  refine ex_st 4 (pc' := 1232) (ls' := [(3, xi (↑j)), (2, xr 143), (1, xr 0), (0, xr 1000)]) (st' := [xi (↑j + 2), xr 1000, xi (a 1), xr 0]) rfl ?_
  refine ex_cald (j := j + 2) rfl (by decide) rfl (by omega) (by omega) hl (ha 2 (by decide)).1 ?_
  obtain ⟨z, m1, I2, L2, h1, h2, hR2, n9, rs9, h9⟩ := (op_taken (sc := sc) hR (ha 1 (by decide)).2 (ha 2 (by decide)).2).int (M := xM_G_taken) rfl rfl
  refine ex_call h1 (by decide) rfl ⟨rfl, rfl, rfl⟩ ⟨Nat.le_of_ble_eq_true rfl, rfl, rfl⟩ (Nat.le_of_ble_eq_true rfl) rfl ?_
  refine ex_st 5 (pc' := 1241) (ls' := [(3, xi (↑j)), (2, xr 143), (1, xr 0), (0, xr 1000)]) (st' := [xi (↑j + 1), xr 1000, xr 143, xi z]) rfl ?_
  refine ex_cald (j := j + 1) rfl (by decide) rfl (by omega) (by omega) hl (ha 1 (by decide)).1 ?_
  refine ex_st 4 (pc' := 1246) (ls' := [(3, xi (↑j)), (2, xr 143), (1, xr 0), (0, xr 1000)]) (st' := [xi (↑j + 2), xr 1000, xi (a 1), xr 143, xi z]) rfl ?_
  refine ex_cald (j := j + 2) rfl (by decide) rfl (by omega) (by omega) hl (ha 2 (by decide)).1 ?_
  refine ex_call h2 (by decide) rfl ⟨rfl, rfl, rfl⟩ ⟨Nat.le_of_ble_eq_true rfl, rfl, rfl⟩ (Nat.le_of_ble_eq_true rfl) (x_recv_9 h9) ?_
  exact ex_icw rfl (fun _ => kk I2 L2 hR2) (fun h => absurd rfl h)
set_option maxRecDepth 100000 in
theorem law_count {sc : List Int} {I : Nat → Nat → Int} {L : Nat → Nat → Int64} {Q : Option xPV → xMem → Prop} {j : Nat} {a : Nat → Int} (hl : sc.length < 100000) (hj : j + 6 ≤ sc.length) (ha : ∀ i, i < 6 → sc[j + i]? = some (a i) ∧ x_R (a i)) (hR : Rl I L) (kk : ∀ I' L', Rl I' L' → x_Ex sc 30 xM_law 1491 [(3, xi (↑j)), (2, xr 143), (1, xr 0), (0, xr 1000)] [] (xSH, I', L') Q) : x_Ex sc 30 xM_law 1255 [(3, xi (↑j)), (2, xr 143), (1, xr 0), (0, xr 1000)] [] (xSH, I, L) Q := by
  refine ex_st 5 (pc' := 1260) (ls' := [(3, xi (↑j)), (2, xr 143), (1, xr 0), (0, xr 1000)]) (st' := [xi (↑j + 1), xr 1000, xr 0]) rfl ?_
  refine ex_cald (j := j + 1) rfl (by decide) rfl (by omega) (by omega) hl (ha 1 (by decide)).1 ?_
  obtain ⟨z, m1, I2, L2, h1, h2, hR2, n9, rs9, h9⟩ := (op_count (sc := sc) hR (ha 1 (by decide)).2).int (M := xM_G_count) rfl rfl
  refine ex_call h1 (by decide) rfl ⟨rfl, rfl, rfl⟩ ⟨Nat.le_of_ble_eq_true rfl, rfl, rfl⟩ (Nat.le_of_ble_eq_true rfl) rfl ?_
  refine ex_st 5 (pc' := 1269) (ls' := [(3, xi (↑j)), (2, xr 143), (1, xr 0), (0, xr 1000)]) (st' := [xi (↑j + 1), xr 1000, xr 143, xi z]) rfl ?_
  refine ex_cald (j := j + 1) rfl (by decide) rfl (by omega) (by omega) hl (ha 1 (by decide)).1 ?_
  refine ex_call h2 (by decide) rfl ⟨rfl, rfl, rfl⟩ ⟨Nat.le_of_ble_eq_true rfl, rfl, rfl⟩ (Nat.le_of_ble_eq_true rfl) (x_recv_9 h9) ?_
  exact ex_icw rfl (fun _ => kk I2 L2 hR2) (fun h => absurd rfl h)
set_option maxRecDepth 100000 in
theorem law_tape {sc : List Int} {I : Nat → Nat → Int} {L : Nat → Nat → Int64} {Q : Option xPV → xMem → Prop} {j : Nat} {a : Nat → Int} (hl : sc.length < 100000) (hj : j + 6 ≤ sc.length) (ha : ∀ i, i < 6 → sc[j + i]? = some (a i) ∧ x_R (a i)) (hR : Rl I L) (kk : ∀ I' L', Rl I' L' → x_Ex sc 30 xM_law 1491 [(3, xi (↑j)), (2, xr 143), (1, xr 0), (0, xr 1000)] [] (xSH, I', L') Q) : x_Ex sc 30 xM_law 1278 [(3, xi (↑j)), (2, xr 143), (1, xr 0), (0, xr 1000)] [] (xSH, I, L) Q := by
  refine ex_st 5 (pc' := 1283) (ls' := [(3, xi (↑j)), (2, xr 143), (1, xr 0), (0, xr 1000)]) (st' := [xi (↑j + 1), xr 1000, xr 0]) rfl ?_
  refine ex_cald (j := j + 1) rfl (by decide) rfl (by omega) (by omega) hl (ha 1 (by decide)).1 ?_
  refine ex_st 4 (pc' := 1288) (ls' := [(3, xi (↑j)), (2, xr 143), (1, xr 0), (0, xr 1000)]) (st' := [xi (↑j + 2), xr 1000, xi (a 1), xr 0]) rfl ?_
  refine ex_cald (j := j + 2) rfl (by decide) rfl (by omega) (by omega) hl (ha 2 (by decide)).1 ?_
  refine ex_st 4 (pc' := 1293) (ls' := [(3, xi (↑j)), (2, xr 143), (1, xr 0), (0, xr 1000)]) (st' := [xi (↑j + 3), xr 1000, xi (a 2), xi (a 1), xr 0]) rfl ?_
  refine ex_cald (j := j + 3) rfl (by decide) rfl (by omega) (by omega) hl (ha 3 (by decide)).1 ?_
  obtain ⟨z, m1, I2, L2, h1, h2, hR2, n9, rs9, h9⟩ := (op_tape (sc := sc) hR (ha 1 (by decide)).2 (ha 2 (by decide)).2 (ha 3 (by decide)).2).int (M := xM_G_tape) rfl rfl
  refine ex_call h1 (by decide) rfl ⟨rfl, rfl, rfl⟩ ⟨Nat.le_of_ble_eq_true rfl, rfl, rfl⟩ (Nat.le_of_ble_eq_true rfl) rfl ?_
  refine ex_st 5 (pc' := 1302) (ls' := [(3, xi (↑j)), (2, xr 143), (1, xr 0), (0, xr 1000)]) (st' := [xi (↑j + 1), xr 1000, xr 143, xi z]) rfl ?_
  refine ex_cald (j := j + 1) rfl (by decide) rfl (by omega) (by omega) hl (ha 1 (by decide)).1 ?_
  refine ex_st 4 (pc' := 1307) (ls' := [(3, xi (↑j)), (2, xr 143), (1, xr 0), (0, xr 1000)]) (st' := [xi (↑j + 2), xr 1000, xi (a 1), xr 143, xi z]) rfl ?_
  refine ex_cald (j := j + 2) rfl (by decide) rfl (by omega) (by omega) hl (ha 2 (by decide)).1 ?_
  refine ex_st 4 (pc' := 1312) (ls' := [(3, xi (↑j)), (2, xr 143), (1, xr 0), (0, xr 1000)]) (st' := [xi (↑j + 3), xr 1000, xi (a 2), xi (a 1), xr 143, xi z]) rfl ?_
  refine ex_cald (j := j + 3) rfl (by decide) rfl (by omega) (by omega) hl (ha 3 (by decide)).1 ?_
  refine ex_call h2 (by decide) rfl ⟨rfl, rfl, rfl⟩ ⟨Nat.le_of_ble_eq_true rfl, rfl, rfl⟩ (Nat.le_of_ble_eq_true rfl) (x_recv_9 h9) ?_
  exact ex_icw rfl (fun _ => kk I2 L2 hR2) (fun h => absurd rfl h)
set_option maxRecDepth 100000 in
theorem law_item {sc : List Int} {I : Nat → Nat → Int} {L : Nat → Nat → Int64} {Q : Option xPV → xMem → Prop} {j : Nat} {a : Nat → Int} (hl : sc.length < 100000) (hj : j + 6 ≤ sc.length) (ha : ∀ i, i < 6 → sc[j + i]? = some (a i) ∧ x_R (a i)) (hR : Rl I L) (kk : ∀ I' L', Rl I' L' → x_Ex sc 30 xM_law 1491 [(3, xi (↑j)), (2, xr 143), (1, xr 0), (0, xr 1000)] [] (xSH, I', L') Q) : x_Ex sc 30 xM_law 1321 [(3, xi (↑j)), (2, xr 143), (1, xr 0), (0, xr 1000)] [] (xSH, I, L) Q := by
  refine ex_st 5 (pc' := 1326) (ls' := [(3, xi (↑j)), (2, xr 143), (1, xr 0), (0, xr 1000)]) (st' := [xi (↑j + 1), xr 1000, xr 0]) rfl ?_
  refine ex_cald (j := j + 1) rfl (by decide) rfl (by omega) (by omega) hl (ha 1 (by decide)).1 ?_
  refine ex_st 4 (pc' := 1331) (ls' := [(3, xi (↑j)), (2, xr 143), (1, xr 0), (0, xr 1000)]) (st' := [xi (↑j + 2), xr 1000, xi (a 1), xr 0]) rfl ?_
  refine ex_cald (j := j + 2) rfl (by decide) rfl (by omega) (by omega) hl (ha 2 (by decide)).1 ?_
  refine ex_st 4 (pc' := 1336) (ls' := [(3, xi (↑j)), (2, xr 143), (1, xr 0), (0, xr 1000)]) (st' := [xi (↑j + 3), xr 1000, xi (a 2), xi (a 1), xr 0]) rfl ?_
  refine ex_cald (j := j + 3) rfl (by decide) rfl (by omega) (by omega) hl (ha 3 (by decide)).1 ?_
  refine ex_st 3 (pc' := 1341) (ls' := [(3, xi (↑j)), (2, xr 143), (1, xr 0), (0, xr 1000)]) (st' := [xl (z_i2l (a 3) <<< ((i3 32).toInt64 &&& 63)), xi (a 2), xi (a 1), xr 0]) rfl ?_
  refine ex_st 4 (pc' := 1345) (ls' := [(3, xi (↑j)), (2, xr 143), (1, xr 0), (0, xr 1000)]) (st' := [xi (↑j + 4), xr 1000, xl (z_i2l (a 3) <<< ((i3 32).toInt64 &&& 63)), xi (a 2), xi (a 1), xr 0]) rfl ?_
  refine ex_cald (j := j + 4) rfl (by decide) rfl (by omega) (by omega) hl (ha 4 (by decide)).1 ?_
  refine ex_st 4 (pc' := 1352) (ls' := [(3, xi (↑j)), (2, xr 143), (1, xr 0), (0, xr 1000)]) (st' := [xl (z_i2l (a 3) <<< ((i3 32).toInt64 &&& 63) ||| z_i2l (a 4) &&& 4294967295), xi (a 2), xi (a 1), xr 0]) rfl ?_
  obtain ⟨z, m1, I2, L2, h1, h2, hR2, n9, rs9, h9⟩ := (op_item (sc := sc) (x := (z_i2l (a 3) <<< ((i3 32).toInt64 &&& 63) ||| z_i2l (a 4) &&& 4294967295)) hR (ha 1 (by decide)).2 (ha 2 (by decide)).2).int (M := xM_G_item) rfl rfl
  refine ex_call h1 (by decide) rfl ⟨rfl, rfl, rfl⟩ ⟨Nat.le_of_ble_eq_true rfl, rfl, rfl⟩ (Nat.le_of_ble_eq_true rfl) rfl ?_
  refine ex_st 5 (pc' := 1360) (ls' := [(3, xi (↑j)), (2, xr 143), (1, xr 0), (0, xr 1000)]) (st' := [xi (↑j + 1), xr 1000, xr 143, xi z]) rfl ?_
  refine ex_cald (j := j + 1) rfl (by decide) rfl (by omega) (by omega) hl (ha 1 (by decide)).1 ?_
  refine ex_st 4 (pc' := 1365) (ls' := [(3, xi (↑j)), (2, xr 143), (1, xr 0), (0, xr 1000)]) (st' := [xi (↑j + 2), xr 1000, xi (a 1), xr 143, xi z]) rfl ?_
  refine ex_cald (j := j + 2) rfl (by decide) rfl (by omega) (by omega) hl (ha 2 (by decide)).1 ?_
  refine ex_st 4 (pc' := 1370) (ls' := [(3, xi (↑j)), (2, xr 143), (1, xr 0), (0, xr 1000)]) (st' := [xi (↑j + 3), xr 1000, xi (a 2), xi (a 1), xr 143, xi z]) rfl ?_
  refine ex_cald (j := j + 3) rfl (by decide) rfl (by omega) (by omega) hl (ha 3 (by decide)).1 ?_
  refine ex_st 3 (pc' := 1375) (ls' := [(3, xi (↑j)), (2, xr 143), (1, xr 0), (0, xr 1000)]) (st' := [xl (z_i2l (a 3) <<< ((i3 32).toInt64 &&& 63)), xi (a 2), xi (a 1), xr 143, xi z]) rfl ?_
  refine ex_st 4 (pc' := 1379) (ls' := [(3, xi (↑j)), (2, xr 143), (1, xr 0), (0, xr 1000)]) (st' := [xi (↑j + 4), xr 1000, xl (z_i2l (a 3) <<< ((i3 32).toInt64 &&& 63)), xi (a 2), xi (a 1), xr 143, xi z]) rfl ?_
  refine ex_cald (j := j + 4) rfl (by decide) rfl (by omega) (by omega) hl (ha 4 (by decide)).1 ?_
  refine ex_st 4 (pc' := 1386) (ls' := [(3, xi (↑j)), (2, xr 143), (1, xr 0), (0, xr 1000)]) (st' := [xl (z_i2l (a 3) <<< ((i3 32).toInt64 &&& 63) ||| z_i2l (a 4) &&& 4294967295), xi (a 2), xi (a 1), xr 143, xi z]) rfl ?_
  refine ex_call h2 (by decide) rfl ⟨rfl, rfl, rfl⟩ ⟨Nat.le_of_ble_eq_true rfl, rfl, rfl⟩ (Nat.le_of_ble_eq_true rfl) (x_recv_9 h9) ?_
  exact ex_icw rfl (fun _ => kk I2 L2 hR2) (fun h => absurd rfl h)
set_option maxRecDepth 100000 in
theorem law_read {sc : List Int} {I : Nat → Nat → Int} {L : Nat → Nat → Int64} {Q : Option xPV → xMem → Prop} {j : Nat} {a : Nat → Int} (hl : sc.length < 100000) (hj : j + 6 ≤ sc.length) (ha : ∀ i, i < 6 → sc[j + i]? = some (a i) ∧ x_R (a i)) (hR : Rl I L) (kk : ∀ I' L', Rl I' L' → x_Ex sc 30 xM_law 1491 [(3, xi (↑j)), (2, xr 143), (1, xr 0), (0, xr 1000)] [] (xSH, I', L') Q) : x_Ex sc 30 xM_law 1394 [(3, xi (↑j)), (2, xr 143), (1, xr 0), (0, xr 1000)] [] (xSH, I, L) Q := by
  refine ex_st 5 (pc' := 1399) (ls' := [(3, xi (↑j)), (2, xr 143), (1, xr 0), (0, xr 1000)]) (st' := [xi (↑j + 1), xr 1000, xr 0]) rfl ?_
  refine ex_cald (j := j + 1) rfl (by decide) rfl (by omega) (by omega) hl (ha 1 (by decide)).1 ?_
  refine ex_st 4 (pc' := 1404) (ls' := [(3, xi (↑j)), (2, xr 143), (1, xr 0), (0, xr 1000)]) (st' := [xi (↑j + 2), xr 1000, xi (a 1), xr 0]) rfl ?_
  refine ex_cald (j := j + 2) rfl (by decide) rfl (by omega) (by omega) hl (ha 2 (by decide)).1 ?_
  obtain ⟨z, m1, I2, L2, h1, h2, hR2, n9, rs9, h9⟩ := (op_read (sc := sc) hR (ha 1 (by decide)).2 (ha 2 (by decide)).2).lng (M := xM_G_read) rfl rfl
  refine ex_call h1 (by decide) rfl ⟨rfl, rfl, rfl⟩ ⟨Nat.le_of_ble_eq_true rfl, rfl, rfl⟩ (Nat.le_of_ble_eq_true rfl) rfl ?_
  refine ex_st 5 (pc' := 1413) (ls' := [(3, xi (↑j)), (2, xr 143), (1, xr 0), (0, xr 1000)]) (st' := [xi (↑j + 1), xr 1000, xr 143, xl z]) rfl ?_
  refine ex_cald (j := j + 1) rfl (by decide) rfl (by omega) (by omega) hl (ha 1 (by decide)).1 ?_
  refine ex_st 4 (pc' := 1418) (ls' := [(3, xi (↑j)), (2, xr 143), (1, xr 0), (0, xr 1000)]) (st' := [xi (↑j + 2), xr 1000, xi (a 1), xr 143, xl z]) rfl ?_
  refine ex_cald (j := j + 2) rfl (by decide) rfl (by omega) (by omega) hl (ha 2 (by decide)).1 ?_
  refine ex_call h2 (by decide) rfl ⟨rfl, rfl, rfl⟩ ⟨Nat.le_of_ble_eq_true rfl, rfl, rfl⟩ (Nat.le_of_ble_eq_true rfl) (x_recv_9 h9) ?_
  refine ex_st 1 (pc' := 1423) (ls' := [(3, xi (↑j)), (2, xr 143), (1, xr 0), (0, xr 1000)]) (st' := [xi (lg_cmp z z).toInt]) rfl ?_
  exact ex_ifw rfl (fun _ => kk I2 L2 hR2) (fun h => absurd (lg_cmp_self z) h)
set_option maxRecDepth 100000 in
theorem law_shift {sc : List Int} {I : Nat → Nat → Int} {L : Nat → Nat → Int64} {Q : Option xPV → xMem → Prop} {j : Nat} {a : Nat → Int} (hl : sc.length < 100000) (hj : j + 6 ≤ sc.length) (ha : ∀ i, i < 6 → sc[j + i]? = some (a i) ∧ x_R (a i)) (hR : Rl I L) (kk : ∀ I' L', Rl I' L' → x_Ex sc 30 xM_law 1491 [(3, xi (↑j)), (2, xr 143), (1, xr 0), (0, xr 1000)] [] (xSH, I', L') Q) : x_Ex sc 30 xM_law 1428 [(3, xi (↑j)), (2, xr 143), (1, xr 0), (0, xr 1000)] [] (xSH, I, L) Q := by
  refine ex_st 5 (pc' := 1433) (ls' := [(3, xi (↑j)), (2, xr 143), (1, xr 0), (0, xr 1000)]) (st' := [xi (↑j + 1), xr 1000, xr 0]) rfl ?_
  refine ex_cald (j := j + 1) rfl (by decide) rfl (by omega) (by omega) hl (ha 1 (by decide)).1 ?_
  refine ex_st 4 (pc' := 1438) (ls' := [(3, xi (↑j)), (2, xr 143), (1, xr 0), (0, xr 1000)]) (st' := [xi (↑j + 2), xr 1000, xi (a 1), xr 0]) rfl ?_
  refine ex_cald (j := j + 2) rfl (by decide) rfl (by omega) (by omega) hl (ha 2 (by decide)).1 ?_
  refine ex_st 4 (pc' := 1443) (ls' := [(3, xi (↑j)), (2, xr 143), (1, xr 0), (0, xr 1000)]) (st' := [xi (↑j + 3), xr 1000, xi (a 2), xi (a 1), xr 0]) rfl ?_
  refine ex_cald (j := j + 3) rfl (by decide) rfl (by omega) (by omega) hl (ha 3 (by decide)).1 ?_
  refine ex_st 4 (pc' := 1448) (ls' := [(3, xi (↑j)), (2, xr 143), (1, xr 0), (0, xr 1000)]) (st' := [xi (↑j + 4), xr 1000, xi (a 3), xi (a 2), xi (a 1), xr 0]) rfl ?_
  refine ex_cald (j := j + 4) rfl (by decide) rfl (by omega) (by omega) hl (ha 4 (by decide)).1 ?_
  refine ex_st 4 (pc' := 1453) (ls' := [(3, xi (↑j)), (2, xr 143), (1, xr 0), (0, xr 1000)]) (st' := [xi (↑j + 5), xr 1000, xi (a 4), xi (a 3), xi (a 2), xi (a 1), xr 0]) rfl ?_
  refine ex_cald (j := j + 5) rfl (by decide) rfl (by omega) (by omega) hl (ha 5 (by decide)).1 ?_
  obtain ⟨z, m1, I2, L2, h1, h2, hR2, n9, rs9, h9⟩ := (op_shift (sc := sc) hR (ha 1 (by decide)).2 (ha 2 (by decide)).2 (ha 3 (by decide)).2 (ha 4 (by decide)).2 (ha 5 (by decide)).2).int (M := xM_G_shift) rfl rfl
  refine ex_call h1 (by decide) rfl ⟨rfl, rfl, rfl⟩ ⟨Nat.le_of_ble_eq_true rfl, rfl, rfl⟩ (Nat.le_of_ble_eq_true rfl) rfl ?_
  refine ex_st 5 (pc' := 1462) (ls' := [(3, xi (↑j)), (2, xr 143), (1, xr 0), (0, xr 1000)]) (st' := [xi (↑j + 1), xr 1000, xr 143, xi z]) rfl ?_
  refine ex_cald (j := j + 1) rfl (by decide) rfl (by omega) (by omega) hl (ha 1 (by decide)).1 ?_
  refine ex_st 4 (pc' := 1467) (ls' := [(3, xi (↑j)), (2, xr 143), (1, xr 0), (0, xr 1000)]) (st' := [xi (↑j + 2), xr 1000, xi (a 1), xr 143, xi z]) rfl ?_
  refine ex_cald (j := j + 2) rfl (by decide) rfl (by omega) (by omega) hl (ha 2 (by decide)).1 ?_
  refine ex_st 4 (pc' := 1472) (ls' := [(3, xi (↑j)), (2, xr 143), (1, xr 0), (0, xr 1000)]) (st' := [xi (↑j + 3), xr 1000, xi (a 2), xi (a 1), xr 143, xi z]) rfl ?_
  refine ex_cald (j := j + 3) rfl (by decide) rfl (by omega) (by omega) hl (ha 3 (by decide)).1 ?_
  refine ex_st 4 (pc' := 1477) (ls' := [(3, xi (↑j)), (2, xr 143), (1, xr 0), (0, xr 1000)]) (st' := [xi (↑j + 4), xr 1000, xi (a 3), xi (a 2), xi (a 1), xr 143, xi z]) rfl ?_
  refine ex_cald (j := j + 4) rfl (by decide) rfl (by omega) (by omega) hl (ha 4 (by decide)).1 ?_
  refine ex_st 4 (pc' := 1482) (ls' := [(3, xi (↑j)), (2, xr 143), (1, xr 0), (0, xr 1000)]) (st' := [xi (↑j + 5), xr 1000, xi (a 4), xi (a 3), xi (a 2), xi (a 1), xr 143, xi z]) rfl ?_
  refine ex_cald (j := j + 5) rfl (by decide) rfl (by omega) (by omega) hl (ha 5 (by decide)).1 ?_
  refine ex_call h2 (by decide) rfl ⟨rfl, rfl, rfl⟩ ⟨Nat.le_of_ble_eq_true rfl, rfl, rfl⟩ (Nat.le_of_ble_eq_true rfl) (x_recv_9 h9) ?_
  exact ex_icw rfl (fun _ => kk I2 L2 hR2) (fun h => absurd rfl h)
set_option maxRecDepth 100000 in
theorem lp_law {sc : List Int} (hv : ∀ v, v ∈ sc → x_R v) (hl : sc.length < 100000) (j : Nat) (hjl : j ≤ sc.length + 6) (I : Nat → Nat → Int) (L : Nat → Nat → Int64) (hR : Rl I L) : x_Ex sc 30 xM_law 18 [(3, xi (↑j)), (2, xr 143), (1, xr 0), (0, xr 1000)] [] (xSH, I, L) (fun r m' => r = some (xi 1) ∧ m'.1 = xSH) := by
  refine ex_st 5 (pc' := 24) (ls' := [(3, xi (↑j)), (2, xr 143), (1, xr 0), (0, xr 1000)]) (st' := [xi (↑sc.length - 6), xi (↑j)]) rfl ?_
  refine ex_ic rfl (by constructor <;> omega) (by constructor <;> omega) (fun (h : (↑sc.length : Int) - 6 < ↑j) => ?_) (fun (h : ¬ (↑sc.length : Int) - 6 < ↑j) => ?_)
  · refine ex_st 1 (pc' := 1498) (ls' := [(3, xi (↑j)), (2, xr 143), (1, xr 0), (0, xr 1000)]) (st' := [xi 1]) rfl ?_
    exact ex_retz rfl (Or.inr rfl) rfl ⟨rfl, rfl⟩
  · have hj : j + 6 ≤ sc.length := by omega
    have nx : ∀ I' L', Rl I' L' → x_Ex sc 30 xM_law 1491 [(3, xi (↑j)), (2, xr 143), (1, xr 0), (0, xr 1000)] [] (xSH, I', L') (fun r m' => r = some (xi 1) ∧ m'.1 = xSH) := fun I' L' hR' =>
      ex_st 2 (pc' := 18) (ls' := [(3, xi (↑(j + 6))), (2, xr 143), (1, xr 0), (0, xr 1000)]) (st' := []) rfl (lp_law hv hl (j + 6) (by omega) I' L' hR')
    obtain ⟨a, ha⟩ : ∃ a : Nat → Int, ∀ i, i < 6 → sc[j + i]? = some (a i) ∧ x_R (a i) := ⟨fun i => (sc[j + i]?).getD 0, fun i hi => by
      have h1 : j + i < sc.length := by omega
      dsimp only
      rw [List.getElem?_eq_getElem h1]
      exact ⟨rfl, hv _ (List.getElem_mem h1)⟩⟩
    refine ex_st 2 (pc' := 29) (ls' := [(3, xi (↑j)), (2, xr 143), (1, xr 0), (0, xr 1000)]) (st' := [xi (↑j), xr 1000]) rfl ?_
    refine ex_cald (j := j) rfl (by decide) rfl rfl (by omega) hl (ha 0 (by decide)).1 ?_
    refine ex_st 2 (pc' := 33) (ls' := [(3, xi (↑j)), (2, xr 143), (1, xr 0), (0, xr 1000)]) (st' := [xi (z_and (a 0) 63)]) rfl ?_
    have hz := z_and_R (a 0) 63
    generalize z_and (a 0) 63 = e at hz ⊢
    by_cases hd : e < 0 ∨ 37 < e
    · exact ex_tswd rfl hz hd rfl (nx I L hR)
    · obtain ⟨k, rfl⟩ : ∃ k : Nat, e = (k : Int) := ⟨e.toNat, by omega⟩
      have hk : k = 0 ∨ k = 1 ∨ k = 2 ∨ k = 3 ∨ k = 4 ∨ k = 5 ∨ k = 6 ∨ k = 7 ∨ k = 8 ∨ k = 9 ∨ k = 10 ∨ k = 11 ∨ k = 12 ∨ k = 13 ∨ k = 14 ∨ k = 15 ∨ k = 16 ∨ k = 17 ∨ k = 18 ∨ k = 19 ∨ k = 20 ∨ k = 21 ∨ k = 22 ∨ k = 23 ∨ k = 24 ∨ k = 25 ∨ k = 26 ∨ k = 27 ∨ k = 28 ∨ k = 29 ∨ k = 30 ∨ k = 31 ∨ k = 32 ∨ k = 33 ∨ k = 34 ∨ k = 35 ∨ k = 36 ∨ k = 37 := by omega
      rcases hk with rfl | rfl | rfl | rfl | rfl | rfl | rfl | rfl | rfl | rfl | rfl | rfl | rfl | rfl | rfl | rfl | rfl | rfl | rfl | rfl | rfl | rfl | rfl | rfl | rfl | rfl | rfl | rfl | rfl | rfl | rfl | rfl | rfl | rfl | rfl | rfl | rfl | rfl
      · exact ex_st 1 (pc' := 200) (ls' := [(3, xi (↑j)), (2, xr 143), (1, xr 0), (0, xr 1000)]) (st' := []) rfl (law_official hl hj ha hR nx)
      · exact ex_st 1 (pc' := 243) (ls' := [(3, xi (↑j)), (2, xr 143), (1, xr 0), (0, xr 1000)]) (st' := []) rfl (law_of hl hj ha hR nx)
      · exact ex_st 1 (pc' := 276) (ls' := [(3, xi (↑j)), (2, xr 143), (1, xr 0), (0, xr 1000)]) (st' := []) rfl (law_base hl hj ha hR nx)
      · exact ex_st 1 (pc' := 319) (ls' := [(3, xi (↑j)), (2, xr 143), (1, xr 0), (0, xr 1000)]) (st' := []) rfl (law_votes hl hj ha hR nx)
      · exact ex_st 1 (pc' := 352) (ls' := [(3, xi (↑j)), (2, xr 143), (1, xr 0), (0, xr 1000)]) (st' := []) rfl (law_away hl hj ha hR nx)
      · exact ex_st 1 (pc' := 401) (ls' := [(3, xi (↑j)), (2, xr 143), (1, xr 0), (0, xr 1000)]) (st' := []) rfl (law_put hl hj ha hR nx)
      · exact ex_st 1 (pc' := 424) (ls' := [(3, xi (↑j)), (2, xr 143), (1, xr 0), (0, xr 1000)]) (st' := []) rfl (law_egg hl hj ha hR nx)
      · exact ex_st 1 (pc' := 447) (ls' := [(3, xi (↑j)), (2, xr 143), (1, xr 0), (0, xr 1000)]) (st' := []) rfl (law_row hl hj ha hR nx)
      · exact ex_st 1 (pc' := 490) (ls' := [(3, xi (↑j)), (2, xr 143), (1, xr 0), (0, xr 1000)]) (st' := []) rfl (law_feed hl hj ha hR nx)
      · exact ex_st 1 (pc' := 513) (ls' := [(3, xi (↑j)), (2, xr 143), (1, xr 0), (0, xr 1000)]) (st' := []) rfl (law_treaty hl hj ha hR nx)
      · exact ex_st 1 (pc' := 526) (ls' := [(3, xi (↑j)), (2, xr 143), (1, xr 0), (0, xr 1000)]) (st' := []) rfl (law_told hl hj ha hR nx)
      · exact ex_st 1 (pc' := 549) (ls' := [(3, xi (↑j)), (2, xr 143), (1, xr 0), (0, xr 1000)]) (st' := []) rfl (law_against hl hj ha hR nx)
      · exact ex_st 1 (pc' := 592) (ls' := [(3, xi (↑j)), (2, xr 143), (1, xr 0), (0, xr 1000)]) (st' := []) rfl (law_pass hl hj ha hR nx)
      · exact ex_st 1 (pc' := 615) (ls' := [(3, xi (↑j)), (2, xr 143), (1, xr 0), (0, xr 1000)]) (st' := []) rfl (law_on hl hj ha hR nx)
      · exact ex_st 1 (pc' := 648) (ls' := [(3, xi (↑j)), (2, xr 143), (1, xr 0), (0, xr 1000)]) (st' := []) rfl (law_agenda hl hj ha hR nx)
      · exact ex_st 1 (pc' := 681) (ls' := [(3, xi (↑j)), (2, xr 143), (1, xr 0), (0, xr 1000)]) (st' := []) rfl (law_bribe hl hj ha hR nx)
      · exact ex_st 1 (pc' := 704) (ls' := [(3, xi (↑j)), (2, xr 143), (1, xr 0), (0, xr 1000)]) (st' := []) rfl (law_odds hl hj ha hR nx)
      · exact ex_st 1 (pc' := 738) (ls' := [(3, xi (↑j)), (2, xr 143), (1, xr 0), (0, xr 1000)]) (st' := []) rfl (law_power hl hj ha hR nx)
      · exact ex_st 1 (pc' := 772) (ls' := [(3, xi (↑j)), (2, xr 143), (1, xr 0), (0, xr 1000)]) (st' := []) rfl (law_pivot hl hj ha hR nx)
      · exact ex_st 1 (pc' := 806) (ls' := [(3, xi (↑j)), (2, xr 143), (1, xr 0), (0, xr 1000)]) (st' := []) rfl (law_mean hl hj ha hR nx)
      · exact ex_st 1 (pc' := 840) (ls' := [(3, xi (↑j)), (2, xr 143), (1, xr 0), (0, xr 1000)]) (st' := []) rfl (law_see hl hj ha hR nx)
      · exact ex_st 1 (pc' := 909) (ls' := [(3, xi (↑j)), (2, xr 143), (1, xr 0), (0, xr 1000)]) (st' := []) rfl (law_can hl hj ha hR nx)
      · exact ex_st 1 (pc' := 942) (ls' := [(3, xi (↑j)), (2, xr 143), (1, xr 0), (0, xr 1000)]) (st' := []) rfl (law_bases hl hj ha hR nx)
      · exact ex_st 1 (pc' := 985) (ls' := [(3, xi (↑j)), (2, xr 143), (1, xr 0), (0, xr 1000)]) (st' := []) rfl (law_plan hl hj ha hR nx)
      · exact ex_st 1 (pc' := 1018) (ls' := [(3, xi (↑j)), (2, xr 143), (1, xr 0), (0, xr 1000)]) (st' := []) rfl (law_ends hl hj ha hR nx)
      · exact ex_st 1 (pc' := 1041) (ls' := [(3, xi (↑j)), (2, xr 143), (1, xr 0), (0, xr 1000)]) (st' := []) rfl (law_book hl hj ha hR nx)
      · exact ex_st 1 (pc' := 1084) (ls' := [(3, xi (↑j)), (2, xr 143), (1, xr 0), (0, xr 1000)]) (st' := []) rfl (law_looked hl hj ha hR nx)
      · exact ex_st 1 (pc' := 1097) (ls' := [(3, xi (↑j)), (2, xr 143), (1, xr 0), (0, xr 1000)]) (st' := []) rfl (law_judge hl hj ha hR nx)
      · exact ex_st 1 (pc' := 1130) (ls' := [(3, xi (↑j)), (2, xr 143), (1, xr 0), (0, xr 1000)]) (st' := []) rfl (law_image hl hj ha hR nx)
      · exact ex_st 1 (pc' := 1143) (ls' := [(3, xi (↑j)), (2, xr 143), (1, xr 0), (0, xr 1000)]) (st' := []) rfl (law_undo hl hj ha hR nx)
      · exact ex_st 1 (pc' := 1156) (ls' := [(3, xi (↑j)), (2, xr 143), (1, xr 0), (0, xr 1000)]) (st' := []) rfl (law_act hl hj ha hR nx)
      · exact ex_st 1 (pc' := 1199) (ls' := [(3, xi (↑j)), (2, xr 143), (1, xr 0), (0, xr 1000)]) (st' := []) rfl (law_trace hl hj ha hR nx)
      · exact ex_st 1 (pc' := 1222) (ls' := [(3, xi (↑j)), (2, xr 143), (1, xr 0), (0, xr 1000)]) (st' := []) rfl (law_taken hl hj ha hR nx)
      · exact ex_st 1 (pc' := 1255) (ls' := [(3, xi (↑j)), (2, xr 143), (1, xr 0), (0, xr 1000)]) (st' := []) rfl (law_count hl hj ha hR nx)
      · exact ex_st 1 (pc' := 1278) (ls' := [(3, xi (↑j)), (2, xr 143), (1, xr 0), (0, xr 1000)]) (st' := []) rfl (law_tape hl hj ha hR nx)
      · exact ex_st 1 (pc' := 1321) (ls' := [(3, xi (↑j)), (2, xr 143), (1, xr 0), (0, xr 1000)]) (st' := []) rfl (law_item hl hj ha hR nx)
      · exact ex_st 1 (pc' := 1394) (ls' := [(3, xi (↑j)), (2, xr 143), (1, xr 0), (0, xr 1000)]) (st' := []) rfl (law_read hl hj ha hR nx)
      · exact ex_st 1 (pc' := 1428) (ls' := [(3, xi (↑j)), (2, xr 143), (1, xr 0), (0, xr 1000)]) (st' := []) rfl (law_shift hl hj ha hR nx)
termination_by sc.length + 6 - j

