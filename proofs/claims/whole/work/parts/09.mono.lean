theorem x_sz_set {sh : List xShp} {k t n : Nat} {rs rs' : List (Option Nat)} (h : sh[k]? = some (t, n, rs)) : x_sz (sh.set k (t, n, rs')) = x_sz sh := by
  unfold x_sz
  congr 1
  apply List.ext_getElem?
  intro j
  rw [List.getElem?_map, List.getElem?_map]
  by_cases hj : j = k
  · subst hj
    rw [List.getElem?_set_self (List.getElem?_eq_some_iff.mp h).1, h]
    rfl
  · rw [List.getElem?_set_ne (Ne.symm hj)]
abbrev x_le (m m' : xMem) : Prop := m.1.length ≤ m'.1.length ∧ x_sz m.1 ≤ x_sz m'.1
theorem x_le_rfl (m : xMem) : x_le m m := ⟨Nat.le_refl _, Nat.le_refl _⟩
theorem x_le_trans {a b c : xMem} (h : x_le a b) (h' : x_le b c) : x_le a c := ⟨Nat.le_trans h.1 h'.1, Nat.le_trans h.2 h'.2⟩
theorem x_le_app (m : xMem) (ns : List xShp) : x_le m (m.1 ++ ns, m.2) := ⟨by simp, by show _ ≤ x_sz (m.1 ++ ns); rw [x_sz_app]; omega⟩
set_option maxHeartbeats 4000000 in
theorem x_sm_mono {sc : List Int} {nL : Nat} {e : xEnt} {pc pc' : Nat} {ls ls' : xLc} {st st' : List xPV} {m m' : xMem} (h : x_sm sc nL e pc ls st m = some (pc', ls', st', m')) : x_le m m' := by
  obtain ⟨ins, len, a, b, z⟩ := e
  cases ins <;> simp only [x_sm, x_math] at h <;> (repeat' split at h) <;> first
    | (cases h; done)
    | (simp only [Option.some.injEq, Prod.mk.injEq] at h; obtain ⟨-, -, -, rfl⟩ := h; first
        | exact x_le_rfl _
        | exact ⟨Nat.le_refl _, Nat.le_refl _⟩
        | exact x_le_app _ _
        | (refine ⟨by simp, ?_⟩; rw [x_sz_set (by assumption)]; exact Nat.le_refl _))
theorem x_ret_same {rk : Nat} {ins : Instr} {st : List xPV} {m m' : xMem} {r : Option xPV} (h : x_ret rk ins st m = some (r, m')) : m' = m := by
  unfold x_ret at h
  repeat' split at h
  all_goals first | (cases h; done) | (simp only [Option.some.injEq, Prod.mk.injEq] at h; exact h.2.symm)
theorem x_run_mono {call : Nat → List xPV → xMem → Option (Option xPV × xMem)} (hc : ∀ μ as m r m', call μ as m = some (r, m') → x_le m m') {sc : List Int} {M : xMt} : ∀ (n pc : Nat) (ls : xLc) (st : List xPV) (m : xMem) (r : Option xPV) (m' : xMem), x_run call sc M n pc ls st m = some (r, m') → x_le m m'
  | 0, _, _, _, _, _, _, h => by simp [x_run] at h
  | n + 1, pc, ls, st, m, r, m', h => by
    unfold x_run at h
    split at h
    · cases h
    · next e he =>
      split at h
      · rw [x_ret_same h]; exact x_le_rfl _
      · split at h
        · split at h
          · split at h
            · next r1 m1 h1 => exact x_le_trans (hc _ _ _ _ _ h1) (x_run_mono hc n _ _ _ _ _ _ h)
            · cases h
          · cases h
        · split at h
          · next pc1 ls1 st1 m1 h1 => exact x_le_trans (x_sm_mono h1) (x_run_mono hc n _ _ _ _ _ _ h)
          · cases h
theorem x_cal_mono {sc : List Int} : ∀ (d f : Nat) (μ : Nat) (as : List xPV) (m : xMem) (r : Option xPV) (m' : xMem), x_cal sc d f μ as m = some (r, m') → x_le m m'
  | 0, _, _, _, _, _, _, h => by simp [x_cal] at h
  | d + 1, f, μ, as, m, r, m', h => by
    unfold x_cal at h
    split at h
    · split at h
      · exact x_run_mono (fun μ as m r m' h => x_cal_mono d f μ as m r m' h) _ _ _ _ _ _ _ h
      · cases h
    · cases h
