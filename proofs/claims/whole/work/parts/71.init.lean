/-! both objects made -/
def x_q (st : List xPV) : Bool := st.all (fun v => match v with
  | .inr (.inr k) => k != 1000
  | _ => true)
theorem x_cArr_sc {sc : List Int} {k : Nat} (h : k ≠ 1000) : x_cArr sc k = x_cArr [] k := by
  unfold x_cArr
  split
  · exact absurd rfl h
  all_goals rfl
theorem x_ald_sc {sc : List Int} {tag k : Nat} {m : xMem} {i : Int} (h : k ≠ 1000) : x_ald sc tag m k i = x_ald [] tag m k i := by
  unfold x_ald
  rw [x_cArr_sc h]
theorem x_sm_sc {sc : List Int} {nL : Nat} {e : xEnt} {pc : Nat} {ls : xLc} {st : List xPV} {m : xMem} (h : x_q st = true) : x_sm sc nL e pc ls st m = x_sm [] nL e pc ls st m := by
  obtain ⟨ins, len, a, b, z⟩ := e
  have h1 : ∀ (i : Int) (k : Nat) (r : List xPV) (t : Nat), st = .inl i :: .inr (.inr k) :: r → x_ald sc t m k i = x_ald [] t m k i := fun i k r t q => x_ald_sc (fun q2 => by subst q; subst q2; simp [x_q] at h)
  have h2 : ∀ (k : Nat) (r : List xPV), st = .inr (.inr k) :: r → x_cArr sc k = x_cArr [] k := fun k r q => x_cArr_sc (fun q2 => by subst q; subst q2; simp [x_q] at h)
  cases ins
  case iaload => simp only [x_sm]; split <;> first | rfl | (rw [h1 _ _ _ _ rfl])
  case baload => simp only [x_sm]; split <;> first | rfl | (rw [h1 _ _ _ _ rfl])
  case arraylength => simp only [x_sm]; split <;> first | rfl | (rw [h2 _ _ rfl])
  all_goals simp only [x_sm]
def x_runC (call : Nat → List xPV → xMem → Option (Option xPV × xMem)) (M : xMt) : Nat → Nat → xLc → List xPV → xMem → Option (Option xPV × xMem)
  | 0, _, _, _, _ => none
  | n + 1, pc, ls, st, m => if x_q st = true then (match x_lk M.2.2 pc with
    | none => none
    | some e => if x_isRet e.1 = true then x_ret M.1 e.1 st m
      else if x_isInv e.1 e.2.2.1 = true then
        (if x_cnt e.1 e.2.2.2.1 ≤ st.length ∧ ((st.drop (x_cnt e.1 e.2.2.2.1)).map x_cat).sum ≤ 8 ∧ x_recv e.1 e.2.2.2.2 m (st.take (x_cnt e.1 e.2.2.2.1)).reverse = true then
          (match call e.2.2.1 (st.take (x_cnt e.1 e.2.2.2.1)).reverse m with
          | some q => x_runC call M n (pc + e.2.1) ls (q.1.toList ++ st.drop (x_cnt e.1 e.2.2.2.1)) q.2
          | none => none) else none)
      else (match x_sm [] M.2.1 e pc ls st m with
        | some q => x_runC call M n q.1 q.2.1 q.2.2.1 q.2.2.2
        | none => none)) else none
theorem x_runC_run {call call' : Nat → List xPV → xMem → Option (Option xPV × xMem)} (hc : ∀ μ as m q, call μ as m = some q → call' μ as m = some q) {sc : List Int} {M : xMt} : ∀ (n n' pc : Nat) (ls : xLc) (st : List xPV) (m : xMem) (q : Option xPV × xMem), n ≤ n' → x_runC call M n pc ls st m = some q → x_run call' sc M n' pc ls st m = some q
  | 0, _, _, _, _, _, _, _, h => by simp [x_runC] at h
  | n + 1, 0, _, _, _, _, _, hn, _ => by omega
  | n + 1, n' + 1, pc, ls, st, m, q, hn, h => by
    unfold x_runC at h
    unfold x_run
    split at h
    · next hq =>
      cases he : x_lk M.2.2 pc with
      | none => rw [he] at h; cases h
      | some e =>
        rw [he] at h
        dsimp only at h ⊢
        by_cases h1 : x_isRet e.1 = true
        · rw [if_pos h1] at h ⊢; exact h
        · rw [if_neg h1] at h ⊢
          by_cases h2 : x_isInv e.1 e.2.2.1 = true
          · rw [if_pos h2] at h ⊢
            split at h
            · next h3 =>
              rw [if_pos h3]
              cases h4 : call e.2.2.1 (st.take (x_cnt e.1 e.2.2.2.1)).reverse m with
              | none => rw [h4] at h; cases h
              | some q1 =>
                rw [h4] at h
                rw [hc _ _ _ _ h4]
                exact x_runC_run hc n n' _ _ _ _ _ (by omega) h
            · cases h
          · rw [if_neg h2] at h ⊢
            rw [x_sm_sc hq]
            cases h4 : x_sm [] M.2.1 e pc ls st m with
            | none => rw [h4] at h; cases h
            | some q1 =>
              rw [h4] at h
              exact x_runC_run hc n n' _ _ _ _ _ (by omega) h
    · cases h
def x_calC : Nat → Nat → Nat → List xPV → xMem → Option (Option xPV × xMem)
  | 0, _ => fun _ _ _ => none
  | d + 1, f => fun μ as m => match x_mts[μ]? with
    | some M => if x_words as ≤ M.2.1 then x_runC (x_calC d f) M f 0 (x_args 0 as) [] m else none
    | none => none
theorem x_calC_cal {sc : List Int} {f f' : Nat} (hf : f ≤ f') : ∀ (d d' : Nat) (μ : Nat) (as : List xPV) (m : xMem) (q : Option xPV × xMem), d ≤ d' → x_calC d f μ as m = some q → x_cal sc d' f' μ as m = some q
  | 0, _, _, _, _, _, _, h => by simp [x_calC] at h
  | d + 1, 0, _, _, _, _, hd, _ => by omega
  | d + 1, d' + 1, μ, as, m, q, hd, h => by
    unfold x_calC at h
    unfold x_cal
    cases hM : x_mts[μ]? with
    | none => rw [hM] at h; cases h
    | some M =>
      rw [hM] at h
      dsimp only at h ⊢
      split at h
      · next hw =>
        rw [if_pos hw]
        exact x_runC_run (fun μ as m q h => x_calC_cal hf d d' μ as m q (by omega) h) _ _ _ _ _ _ _ hf h
      · cases h
theorem x_CE.kern {sc : List Int} {d D f μ : Nat} {as : List xPV} {m m' : xMem} {r : Option xPV} (h : x_calC d f μ as m = some (r, m')) (hd : d ≤ D) : x_CE sc D μ as m r m' :=
  ⟨f, fun _ hf d' hd' => x_calC_cal hf d d' μ as m _ (by omega) h⟩

