/-! the order of the locals doesn't matter, nor do more of them -/
def x_pm (l l' : xLc) : Prop := ∀ i, l.filter (fun q => q.1 == i) = [] ∨ l.filter (fun q => q.1 == i) = l'.filter (fun q => q.1 == i)
theorem x_get_f (l : xLc) (i : Nat) : x_get l i = ((l.filter (fun q => q.1 == i)).head?).map (fun q => q.2) := by
  induction l with
  | nil => rfl
  | cons q l ih =>
    unfold x_get
    by_cases h : q.1 = i
    · rw [if_pos h, List.filter_cons_of_pos (by simpa using h)]; rfl
    · rw [if_neg h, ih, List.filter_cons_of_neg (by simpa using h)]
theorem x_pm.get {l l' : xLc} (h : x_pm l l') (i : Nat) : x_get l i = none ∨ x_get l' i = x_get l i := by
  rcases h i with h | h
  · left; rw [x_get_f, h]; rfl
  · right; rw [x_get_f, x_get_f, h]
theorem x_pm.st1 {l l' : xLc} (h : x_pm l l') (i : Nat) (v : xPV) : x_pm (x_st1 l i v) (x_st1 l' i v) := by
  intro j
  unfold x_st1
  have key : ∀ (p : Nat × xPV → Bool) (a : xLc), (a.filter p).filter (fun q => q.1 == j) = (a.filter (fun q => q.1 == j)).filter p := fun p a => by
    rw [List.filter_filter, List.filter_filter]
    congr 1
    funext q
    exact Bool.and_comm _ _
  rw [List.filter_cons, List.filter_cons, key, key]
  rcases h j with h | h
  · rw [h]
    by_cases e : i = j
    · subst e
      right
      have k2 : ∀ a : xLc, (a.filter (fun q => q.1 == i)).filter (fun q => !(q.1 == i) && !(q.1 + 1 == i && x_cat q.2 == 2)) = [] := fun a => by
        rw [List.filter_filter, List.filter_eq_nil_iff]
        intro q _
        cases (q.1 == i) <;> simp
      rw [k2]; simp
    · left
      simp [e]
  · right; rw [h]
def x_usesL : Instr → Bool
  | .iload_n _ | .iload _ | .lload_n _ | .aload_n _ | .aload _ | .istore_n _ | .istore _ | .astore_n _ | .astore _ | .iinc _ _ => true
  | _ => false
set_option maxHeartbeats 4000000 in
theorem x_sm_ls {sc : List Int} {nL : Nat} {e : xEnt} {pc : Nat} {ls ls' : xLc} {st : List xPV} {m : xMem} (hn : x_usesL e.1 = false) : x_sm sc nL e pc ls' st m = (x_sm sc nL e pc ls st m).map (fun q => (q.1, ls', q.2.2)) := by
  obtain ⟨ins, len, a, b, z⟩ := e
  cases ins <;> simp only [x_usesL] at hn <;> (try (cases hn; done)) <;> simp only [x_sm, x_math] <;> (repeat' split) <;> first
    | rfl
    | simp_all
theorem x_sm_pm {sc : List Int} {nL : Nat} {e : xEnt} {pc pc1 : Nat} {ls ls' ls1 : xLc} {st st1 : List xPV} {m m1 : xMem} (hp : x_pm ls ls') (h : x_sm sc nL e pc ls st m = some (pc1, ls1, st1, m1)) : ∃ ls1', x_sm sc nL e pc ls' st m = some (pc1, ls1', st1, m1) ∧ x_pm ls1 ls1' := by
  by_cases hu : x_usesL e.1 = false
  · have h1 := x_sm_ls (sc := sc) (nL := nL) (pc := pc) (ls := ls) (ls' := ls) (st := st) (m := m) hu
    have h2 := x_sm_ls (sc := sc) (nL := nL) (pc := pc) (ls := ls) (ls' := ls') (st := st) (m := m) hu
    rw [h] at h1 h2
    simp only [Option.map_some, Option.some.injEq, Prod.mk.injEq] at h1
    obtain ⟨-, rfl, -⟩ := h1
    exact ⟨ls', h2, hp⟩
  · obtain ⟨ins, len, a, b, z⟩ := e
    have hg := hp.get a
    rcases hg with hg | hg <;> cases ins <;> simp only [x_usesL, not_true_eq_false, not_false_eq_true] at hu <;> simp only [x_sm] at h ⊢ <;> (try simp only [hg] at h) <;> (try simp only [hg]) <;> (repeat' split at h) <;> first
      | (cases h; done)
      | (simp only [Option.some.injEq, Prod.mk.injEq] at h; obtain ⟨rfl, rfl, rfl, rfl⟩ := h; first
          | exact ⟨_, rfl, hp⟩
          | exact ⟨_, rfl, hp.st1 _ _⟩
          | (refine ⟨_, ?_, hp⟩; simp_all; done)
          | (refine ⟨_, ?_, hp.st1 _ _⟩; simp_all; done))
theorem x_run_pm {call : Nat → List xPV → xMem → Option (Option xPV × xMem)} {sc : List Int} {M : xMt} : ∀ (n pc : Nat) (ls ls' : xLc) (st : List xPV) (m : xMem) (q : Option xPV × xMem), x_pm ls ls' → x_run call sc M n pc ls st m = some q → x_run call sc M n pc ls' st m = some q
  | 0, _, _, _, _, _, _, _, h => by simp [x_run] at h
  | n + 1, pc, ls, ls', st, m, q, hp, h => by
    unfold x_run at h ⊢
    split at h
    · cases h
    · next e he =>
      split at h
      · next hr => rw [if_pos hr]; exact h
      · next hr =>
        rw [if_neg hr]
        split at h
        · next hi =>
          rw [if_pos hi]
          split at h
          · next hc =>
            rw [if_pos hc]
            split at h
            · next r1 m1 h1 =>
              exact x_run_pm n _ _ _ _ _ _ hp h
            · cases h
          · cases h
        · next hi =>
          rw [if_neg hi]
          split at h
          · next pc1 ls1 st1 m1 h1 =>
            obtain ⟨ls1', h2, hp2⟩ := x_sm_pm hp h1
            rw [h2]
            exact x_run_pm n _ _ _ _ _ _ hp2 h
          · cases h
theorem ex_pm {sc : List Int} {D : Nat} {M : xMt} {pc : Nat} {ls : xLc} (ls' : xLc) {st : List xPV} {m : xMem} {Q : Option xPV → xMem → Prop} (hp : x_pm ls' ls) (h : x_Ex sc D M pc ls' st m Q) : x_Ex sc D M pc ls st m Q := by
  obtain ⟨r, m', hq, N, hN⟩ := h
  exact ⟨r, m', hq, N, fun f hf n hn d hd => x_run_pm _ _ _ _ _ _ _ hp (hN f hf n hn d hd)⟩
theorem x_pm_test (a b : xPV) : x_pm [(1, a), (0, b)] [(0, b), (1, a)] := fun i => by rcases i with _ | _ | _ | _ | _ | _ | _ | _ | _ | i <;> first | (right; rfl) | (left; rfl)
theorem x_pm_test2 (a b c : xPV) : x_pm [(1, a), (0, b)] [(0, b), (2, c), (1, a)] := fun i => by rcases i with _ | _ | _ | _ | _ | _ | _ | _ | _ | i <;> first | (right; rfl) | (left; rfl)
