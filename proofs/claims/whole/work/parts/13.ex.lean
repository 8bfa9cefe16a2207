/-! the shapes once both objects are made, and rules for runs of the mini machine -/
def xSH_0 : List xShp := [(8, 11, [some 1, some 29, some 57, none, some 85, some 87, some 91, none, some 92, some 104, some 106]), (7, 11, [some 2, none, some 3, some 4, none, none, none, none, some 5, some 7, some 9]), (32, 6, [some 11, some 14, some 17, some 20, some 23, some 26]), (20, 5, []), (20, 5, []), (4, 3, [none, some 6, none]), (20, 20, []), (4, 3, [none, some 8, none]), (20, 40, []), (4, 3, [none, some 10, none]), (20, 32, []), (2, 6, [none, none, none, none, some 12, some 13]), (20, 5, []), (20, 4, []), (2, 6, [none, none, none, none, some 15, some 16]), (20, 5, []), (20, 4, []), (2, 6, [none, none, none, none, some 18, some 19]), (20, 5, []), (20, 4, []), (2, 6, [none, none, none, none, some 21, some 22]), (20, 5, []), (20, 4, []), (2, 6, [none, none, none, none, some 24, some 25]), (20, 5, []), (20, 4, []), (2, 6, [none, none, none, none, some 27, some 28]), (20, 5, []), (20, 4, []), (7, 11, [some 30, none, some 31, some 32, none, none, none, none, some 33, some 35, some 37]), (32, 6, [some 39, some 42, some 45, some 48, some 51, some 54]), (20, 5, []), (20, 5, []), (4, 3, [none, some 34, none]), (20, 20, []), (4, 3, [none, some 36, none]), (20, 40, []), (4, 3, [none, some 38, none]), (20, 32, []), (2, 6, [none, none, none, none, some 40, some 41]), (20, 5, []), (20, 4, []), (2, 6, [none, none, none, none, some 43, some 44]), (20, 5, []), (20, 4, []), (2, 6, [none, none, none, none, some 46, some 47]), (20, 5, []), (20, 4, []), (2, 6, [none, none, none, none, some 49, some 50]), (20, 5, [])]
def xSH_1 : List xShp := [(20, 4, []), (2, 6, [none, none, none, none, some 52, some 53]), (20, 5, []), (20, 4, []), (2, 6, [none, none, none, none, some 55, some 56]), (20, 5, []), (20, 4, []), (7, 11, [some 58, none, some 59, some 60, none, none, none, none, some 61, some 63, some 65]), (32, 6, [some 67, some 70, some 73, some 76, some 79, some 82]), (20, 5, []), (20, 5, []), (4, 3, [none, some 62, none]), (20, 20, []), (4, 3, [none, some 64, none]), (20, 40, []), (4, 3, [none, some 66, none]), (20, 32, []), (2, 6, [none, none, none, none, some 68, some 69]), (20, 5, []), (20, 4, []), (2, 6, [none, none, none, none, some 71, some 72]), (20, 5, []), (20, 4, []), (2, 6, [none, none, none, none, some 74, some 75]), (20, 5, []), (20, 4, []), (2, 6, [none, none, none, none, some 77, some 78]), (20, 5, []), (20, 4, []), (2, 6, [none, none, none, none, some 80, some 81]), (20, 5, []), (20, 4, []), (2, 6, [none, none, none, none, some 83, some 84]), (20, 5, []), (20, 4, []), (3, 3, [some 86, none, none]), (21, 100, []), (6, 6, [none, none, some 88, some 89, some 90, none]), (20, 10, []), (20, 10, []), (20, 100, []), (36, 6, [some 107, some 111, some 115, some 119, some 123, some 127]), (1, 8, [some 93, none, none, none, some 100, some 101, some 102, some 103]), (40, 6, [some 94, some 95, some 96, some 97, some 98, some 99]), (20, 5, []), (20, 5, []), (20, 5, []), (20, 5, []), (20, 5, []), (20, 5, [])]
def xSH_2 : List xShp := [(20, 6, []), (20, 5, []), (20, 6, []), (20, 5, []), (0, 5, [some 105, none, none, none, none]), (20, 20, []), (35, 6, [some 131, some 133, some 135, some 137, some 139, some 141]), (6, 6, [none, none, some 108, some 109, some 110, none]), (20, 10, []), (20, 10, []), (20, 100, []), (6, 6, [none, none, some 112, some 113, some 114, none]), (20, 10, []), (20, 10, []), (20, 100, []), (6, 6, [none, none, some 116, some 117, some 118, none]), (20, 10, []), (20, 10, []), (20, 100, []), (6, 6, [none, none, some 120, some 121, some 122, none]), (20, 10, []), (20, 10, []), (20, 100, []), (6, 6, [none, none, some 124, some 125, some 126, none]), (20, 10, []), (20, 10, []), (20, 100, []), (6, 6, [none, none, some 128, some 129, some 130, none]), (20, 10, []), (20, 10, []), (20, 100, []), (5, 3, [none, none, some 132]), (23, 60, []), (5, 3, [none, none, some 134]), (23, 60, []), (5, 3, [none, none, some 136]), (23, 60, []), (5, 3, [none, none, some 138]), (23, 60, []), (5, 3, [none, none, some 140]), (23, 60, []), (5, 3, [none, none, some 142]), (23, 60, []), (9, 82, [none, none, none, none, none, some 144, some 145, some 146, some 147, some 148, some 149, some 150, none, none, none, none, none, some 151, some 152, some 153, some 154, some 155, some 156, some 157, some 158, none, none, none, some 159, some 160, some 161, some 162, none, none, none, none, some 163, some 164, none, some 165, some 166, some 167, some 168, none, none, some 169, some 170, some 171, some 172, some 173, none, none, none, none, none, none, none, none, none, none, some 174, some 175, some 176, some 177, some 178, some 179, some 180, some 181, some 182, some 183, some 184, some 185, some 186, some 187, some 188, some 189, none, some 190, some 191, some 192, some 193, some 194]), (20, 6, []), (20, 6, []), (20, 6, []), (20, 30, []), (20, 24, []), (20, 5, [])]
def xSH_3 : List xShp := [(20, 5, []), (20, 100, []), (20, 6, []), (20, 60, []), (20, 60, []), (20, 60, []), (20, 60, []), (20, 600, []), (20, 101, []), (20, 15, []), (22, 100, []), (20, 30, []), (22, 25, []), (20, 5, []), (20, 5, []), (20, 5, []), (20, 5, []), (20, 5, []), (22, 5, []), (20, 10, []), (20, 10, []), (20, 8, []), (20, 8, []), (20, 8, []), (20, 6, []), (20, 6, []), (20, 6, []), (20, 30, []), (20, 24, []), (20, 5, []), (20, 5, []), (20, 5, []), (20, 5, []), (20, 5, []), (20, 10, []), (20, 10, []), (20, 8, []), (20, 8, []), (20, 8, []), (22, 5, []), (20, 20, []), (20, 6, []), (20, 6, []), (23, 360, []), (23, 60, [])]
def xSH : List xShp := xSH_0 ++ (xSH_1 ++ (xSH_2 ++ xSH_3))
/-- a run from here ends, whatever fuel beyond some, at every depth from D on; its answer and memory have Q -/
def x_Ex (sc : List Int) (D : Nat) (M : xMt) (pc : Nat) (ls : xLc) (st : List xPV) (m : xMem) (Q : Option xPV → xMem → Prop) : Prop :=
  ∃ r m', Q r m' ∧ ∃ N, ∀ f, N ≤ f → ∀ n, N ≤ n → ∀ d, D ≤ d → x_run (x_cal sc d f) sc M n pc ls st m = some (r, m')
/-- a call ends so -/
def x_CE (sc : List Int) (D : Nat) (μ : Nat) (as : List xPV) (m : xMem) (r : Option xPV) (m' : xMem) : Prop :=
  ∃ N, ∀ f, N ≤ f → ∀ d, D ≤ d → x_cal sc d f μ as m = some (r, m')
/-- a call ends, and its answer and memory have Q -/
def x_CQ (sc : List Int) (D : Nat) (μ : Nat) (as : List xPV) (m : xMem) (Q : Option xPV → xMem → Prop) : Prop := ∃ r m', Q r m' ∧ x_CE sc D μ as m r m'
abbrev x_R (z : Int) : Prop := -2147483648 ≤ z ∧ z < 2147483648
theorem x_R.wr {z : Int} (h : x_R z) : wr z = z := wr_id h.1 h.2
theorem x_Ex.mono {sc : List Int} {D : Nat} {M : xMt} {pc : Nat} {ls : xLc} {st : List xPV} {m : xMem} {Q Q' : Option xPV → xMem → Prop} (h : x_Ex sc D M pc ls st m Q) (hq : ∀ r m', Q r m' → Q' r m') : x_Ex sc D M pc ls st m Q' := by
  obtain ⟨r, m', h1, h2⟩ := h
  exact ⟨r, m', hq r m' h1, h2⟩
theorem x_CE.of {sc : List Int} {D : Nat} {μ : Nat} {as : List xPV} {m m' : xMem} {r : Option xPV} {M : xMt} (hM : x_mts[μ]? = some M) (hw : x_words as ≤ M.2.1) (h : x_Ex sc D M 0 (x_args 0 as) [] m (fun r' m'' => r' = r ∧ m'' = m')) : x_CE sc (D + 1) μ as m r m' := by
  obtain ⟨r', m'', ⟨rfl, rfl⟩, N, hN⟩ := h
  refine ⟨N, fun f hf d hd => ?_⟩
  obtain ⟨d, rfl⟩ : ∃ k, d = k + 1 := ⟨d - 1, by omega⟩
  unfold x_cal
  rw [hM]
  dsimp only
  rw [if_pos hw]
  exact hN f hf f hf d (by omega)
theorem x_CQ.of {sc : List Int} {D : Nat} {μ : Nat} {as : List xPV} {m : xMem} {Q : Option xPV → xMem → Prop} {M : xMt} (hM : x_mts[μ]? = some M) (hw : x_words as ≤ M.2.1) (h : x_Ex sc D M 0 (x_args 0 as) [] m Q) : x_CQ sc (D + 1) μ as m Q := by
  obtain ⟨r', m'', hq, N, hN⟩ := h
  exact ⟨r', m'', hq, x_CE.of hM hw ⟨r', m'', ⟨rfl, rfl⟩, N, hN⟩⟩
def x_stp (sc : List Int) (M : xMt) (pc : Nat) (ls : xLc) (st : List xPV) (m : xMem) : Option (Nat × xLc × List xPV × xMem) := match x_lk M.2.2 pc with
  | some e => if x_isRet e.1 || x_isInv e.1 e.2.2.1 then none else x_sm sc M.2.1 e pc ls st m
  | none => none
def x_stps (sc : List Int) (M : xMt) : Nat → Nat → xLc → List xPV → xMem → Option (Nat × xLc × List xPV × xMem)
  | 0, pc, ls, st, m => some (pc, ls, st, m)
  | k + 1, pc, ls, st, m => match x_stp sc M pc ls st m with
    | some (pc', ls', st', m') => x_stps sc M k pc' ls' st' m'
    | none => none
section EX
variable {sc : List Int} {D : Nat} {M : xMt} {pc pc' : Nat} {ls ls' : xLc} {st st' r : List xPV} {m m' : xMem} {Q : Option xPV → xMem → Prop}
theorem ex_stp (h : x_stp sc M pc ls st m = some (pc', ls', st', m')) (k : x_Ex sc D M pc' ls' st' m' Q) : x_Ex sc D M pc ls st m Q := by
  unfold x_stp at h
  split at h
  · next e he =>
    split at h
    · cases h
    · next hn =>
      simp only [Bool.or_eq_true, not_or, Bool.not_eq_true] at hn
      obtain ⟨a, b, hq, N, hN⟩ := k
      refine ⟨a, b, hq, N + 1, fun f hf n hnn d hd => ?_⟩
      obtain ⟨n, rfl⟩ : ∃ k, n = k + 1 := ⟨n - 1, by omega⟩
      unfold x_run
      rw [he]
      dsimp only
      rw [if_neg (by rw [hn.1]; decide), if_neg (by rw [hn.2]; decide), h]
      exact hN f (by omega) n (by omega) d hd
  · cases h
theorem ex_st (k : Nat) (h : x_stps sc M k pc ls st m = some (pc', ls', st', m')) (kk : x_Ex sc D M pc' ls' st' m' Q) : x_Ex sc D M pc ls st m Q := by
  induction k generalizing pc ls st m with
  | zero => cases h; exact kk
  | succ k ih =>
    unfold x_stps at h
    split at h
    · next pc1 ls1 st1 m1 h1 => exact ex_stp h1 (ih h)
    · cases h
theorem ex_ret {e : xEnt} {a : Option xPV} (he : x_lk M.2.2 pc = some e) (hr : x_isRet e.1 = true) (h : x_ret M.1 e.1 st m = some (a, m)) (hq : Q a m) : x_Ex sc D M pc ls st m Q := by
  refine ⟨a, m, hq, 1, fun f hf n hnn d hd => ?_⟩
  obtain ⟨n, rfl⟩ : ∃ k, n = k + 1 := ⟨n - 1, by omega⟩
  unfold x_run
  rw [he]
  dsimp only
  rw [if_pos hr, h]
theorem ex_call {e : xEnt} {D' : Nat} {a : Option xPV} {as rest : List xPV} {μ : Nat} (hc : x_CE sc D' μ as m a m') (hD : D' ≤ D) (he : x_lk M.2.2 pc = some e) (hi : x_isRet e.1 = false ∧ x_isInv e.1 e.2.2.1 = true ∧ e.2.2.1 = μ)
    (hk : x_cnt e.1 e.2.2.2.1 ≤ st.length ∧ (st.take (x_cnt e.1 e.2.2.2.1)).reverse = as ∧ st.drop (x_cnt e.1 e.2.2.2.1) = rest) (hs : (rest.map x_cat).sum ≤ 8) (hrc : x_recv e.1 e.2.2.2.2 m as = true)
    (kk : x_Ex sc D M (pc + e.2.1) ls (a.toList ++ rest) m' Q) : x_Ex sc D M pc ls st m Q := by
  obtain ⟨N1, h1⟩ := hc
  obtain ⟨b, mb, hq, N2, h2⟩ := kk
  refine ⟨b, mb, hq, N1 + N2 + 1, fun f hf n hnn d hd => ?_⟩
  obtain ⟨n, rfl⟩ : ∃ k, n = k + 1 := ⟨n - 1, by omega⟩
  obtain ⟨hi1, hi2, hi3⟩ := hi
  obtain ⟨hk1, hk2, hk3⟩ := hk
  unfold x_run
  rw [he]
  dsimp only
  rw [if_neg (by rw [hi1]; decide), if_pos hi2, hk2, hk3, if_pos ⟨hk1, hs, hrc⟩, hi3, h1 f (by omega) d (by omega)]
  exact h2 f (by omega) n (by omega) d hd
theorem ex_callQ {e : xEnt} {D' : Nat} {as rest : List xPV} {μ : Nat} {Q' : Option xPV → xMem → Prop} (hc : x_CQ sc D' μ as m Q') (hD : D' ≤ D) (he : x_lk M.2.2 pc = some e) (hi : x_isRet e.1 = false ∧ x_isInv e.1 e.2.2.1 = true ∧ e.2.2.1 = μ)
    (hk : x_cnt e.1 e.2.2.2.1 ≤ st.length ∧ (st.take (x_cnt e.1 e.2.2.2.1)).reverse = as ∧ st.drop (x_cnt e.1 e.2.2.2.1) = rest) (hs : (rest.map x_cat).sum ≤ 8) (hrc : x_recv e.1 e.2.2.2.2 m as = true)
    (kk : ∀ a m', Q' a m' → x_Ex sc D M (pc + e.2.1) ls (a.toList ++ rest) m' Q) : x_Ex sc D M pc ls st m Q := by
  obtain ⟨a, m', hq, h⟩ := hc
  exact ex_call h hD he hi hk hs hrc (kk a m' hq)
def x_cd : Jvm.ClassFile.Cond → Int → Int → Prop
  | .eq, a, b => a = b
  | .ne, a, b => ¬ a = b
  | .lt, a, b => a < b
  | .ge, a, b => b ≤ a
  | .gt, a, b => b < a
  | .le, a, b => a ≤ b
theorem x_cnd_iff {c : Jvm.ClassFile.Cond} {a b : Int} : x_cnd c a b = true ↔ x_cd c a b := by cases c <;> simp [x_cnd, x_cd]
/-- a branch on one int against 0 -/
theorem ex_if {cd : Jvm.ClassFile.Cond} {off : Int} {a b : Nat} {z x : Int} (he : x_lk M.2.2 pc = some (.ifCond cd off, 3, a, b, z)) (hx : x_R x) (ht : x_cd cd x 0 → x_Ex sc D M a ls r m Q) (hf : ¬ x_cd cd x 0 → x_Ex sc D M (pc + 3) ls r m Q) : x_Ex sc D M pc ls (xi x :: r) m Q := by
  have h : x_stp sc M pc ls (xi x :: r) m = some (if x_cnd cd (wr x) 0 = true then a else pc + 3, ls, r, m) := by
    unfold x_stp; rw [he]; simp [x_isRet, x_isInv, x_sm]
  rw [hx.wr] at h
  by_cases hc : x_cd cd x 0
  · rw [if_pos (x_cnd_iff.mpr hc)] at h
    exact ex_stp h (ht hc)
  · rw [if_neg (fun q => hc (x_cnd_iff.mp q))] at h
    exact ex_stp h (hf hc)
/-- a branch on two ints -/
theorem ex_ic {cd : Jvm.ClassFile.Cond} {off : Int} {a b : Nat} {z x y : Int} (he : x_lk M.2.2 pc = some (.if_icmp cd off, 3, a, b, z)) (hx : x_R x) (hy : x_R y) (ht : x_cd cd x y → x_Ex sc D M a ls r m Q) (hf : ¬ x_cd cd x y → x_Ex sc D M (pc + 3) ls r m Q) : x_Ex sc D M pc ls (xi y :: xi x :: r) m Q := by
  have h : x_stp sc M pc ls (xi y :: xi x :: r) m = some (if x_cnd cd (wr x) (wr y) = true then a else pc + 3, ls, r, m) := by
    unfold x_stp; rw [he]; simp [x_isRet, x_isInv, x_sm]
  rw [hx.wr, hy.wr] at h
  by_cases hc : x_cd cd x y
  · rw [if_pos (x_cnd_iff.mpr hc)] at h
    exact ex_stp h (ht hc)
  · rw [if_neg (fun q => hc (x_cnd_iff.mp q))] at h
    exact ex_stp h (hf hc)
/-- as ex_if and ex_ic, for ints of any size -/
theorem ex_ifw {cd : Jvm.ClassFile.Cond} {off : Int} {a b : Nat} {z x : Int} (he : x_lk M.2.2 pc = some (.ifCond cd off, 3, a, b, z)) (ht : x_cd cd (wr x) 0 → x_Ex sc D M a ls r m Q) (hf : ¬ x_cd cd (wr x) 0 → x_Ex sc D M (pc + 3) ls r m Q) : x_Ex sc D M pc ls (xi x :: r) m Q := by
  have h : x_stp sc M pc ls (xi x :: r) m = some (if x_cnd cd (wr x) 0 = true then a else pc + 3, ls, r, m) := by
    unfold x_stp; rw [he]; simp [x_isRet, x_isInv, x_sm]
  by_cases hc : x_cd cd (wr x) 0
  · rw [if_pos (x_cnd_iff.mpr hc)] at h
    exact ex_stp h (ht hc)
  · rw [if_neg (fun q => hc (x_cnd_iff.mp q))] at h
    exact ex_stp h (hf hc)
theorem ex_icw {cd : Jvm.ClassFile.Cond} {off : Int} {a b : Nat} {z x y : Int} (he : x_lk M.2.2 pc = some (.if_icmp cd off, 3, a, b, z)) (ht : x_cd cd (wr x) (wr y) → x_Ex sc D M a ls r m Q) (hf : ¬ x_cd cd (wr x) (wr y) → x_Ex sc D M (pc + 3) ls r m Q) : x_Ex sc D M pc ls (xi y :: xi x :: r) m Q := by
  have h : x_stp sc M pc ls (xi y :: xi x :: r) m = some (if x_cnd cd (wr x) (wr y) = true then a else pc + 3, ls, r, m) := by
    unfold x_stp; rw [he]; simp [x_isRet, x_isInv, x_sm]
  by_cases hc : x_cd cd (wr x) (wr y)
  · rw [if_pos (x_cnd_iff.mpr hc)] at h
    exact ex_stp h (ht hc)
  · rw [if_neg (fun q => hc (x_cnd_iff.mp q))] at h
    exact ex_stp h (hf hc)
/-- any one instruction whose step is given -/
theorem ex_sm {e : xEnt} (he : x_lk M.2.2 pc = some e) (hn : (x_isRet e.1 || x_isInv e.1 e.2.2.1) = false) (h : x_sm sc M.2.1 e pc ls st m = some (pc', ls', st', m')) (k : x_Ex sc D M pc' ls' st' m' Q) : x_Ex sc D M pc ls st m Q :=
  ex_stp (by unfold x_stp; rw [he]; dsimp only; rw [hn]; exact h) k
variable {sh : List xShp} {I : Nat → Nat → Int} {L : Nat → Nat → Int64}
theorem ex_iald {len a b k n : Nat} {z i : Int} {rs : List (Option Nat)} (he : x_lk M.2.2 pc = some (.iaload, len, a, b, z)) (hk : k < 1000) (hs : sh[k]? = some (20, n, rs)) {j : Nat} (hi : i = (j : Int)) (hj : j < n) (hn : n < 100000) (kk : x_Ex sc D M (pc + len) ls (xi (I k j) :: r) (sh, I, L) Q) : x_Ex sc D M pc ls (xi i :: xr k :: r) (sh, I, L) Q := by
  have hw : wr i = i := wr_id (by omega) (by omega)
  have h0 : 0 ≤ i := by omega
  have h1 : i < n := by omega
  have hj2 : i.toNat = j := by omega
  refine ex_sm he rfl ?_ kk
  simp only [x_sm, x_ald, hk, hs, hw, if_true]
  rw [if_pos ⟨trivial, h0, h1⟩, hj2]
theorem ex_bald {len a b k n : Nat} {z i : Int} {rs : List (Option Nat)} (he : x_lk M.2.2 pc = some (.baload, len, a, b, z)) (hk : k < 1000) (hs : sh[k]? = some (a, n, rs)) {j : Nat} (hi : i = (j : Int)) (hj : j < n) (hn : n < 100000) (kk : x_Ex sc D M (pc + len) ls (xi (I k j) :: r) (sh, I, L) Q) : x_Ex sc D M pc ls (xi i :: xr k :: r) (sh, I, L) Q := by
  have hw : wr i = i := wr_id (by omega) (by omega)
  have h0 : 0 ≤ i := by omega
  have h1 : i < n := by omega
  have hj2 : i.toNat = j := by omega
  refine ex_sm he rfl ?_ kk
  simp only [x_sm, x_ald, hk, hs, hw, if_true]
  rw [if_pos ⟨trivial, h0, h1⟩, hj2]
theorem ex_cald {len a b k : Nat} {z i : Int} {ct : List Int} {v : Int} (he : x_lk M.2.2 pc = some (.iaload, len, a, b, z)) (hk : 1000 ≤ k) (hs : x_cArr sc k = some (20, ct)) {j : Nat} (hi : i = (j : Int)) (hj : j < ct.length) (hn : ct.length < 100000) (hv : ct[j]? = some v) (kk : x_Ex sc D M (pc + len) ls (xi v :: r) m Q) : x_Ex sc D M pc ls (xi i :: xr k :: r) m Q := by
  have hw : wr i = i := wr_id (by omega) (by omega)
  have h0 : 0 ≤ i := by omega
  have h1 : i < ct.length := by omega
  have hj2 : i.toNat = j := by omega
  refine ex_sm he rfl ?_ kk
  simp only [x_sm, x_ald, Nat.not_lt.mpr hk, hs, hw, if_false]
  rw [if_pos ⟨trivial, h0, h1⟩, hj2, hv]
theorem ex_aald {len a b k n q t : Nat} {z i : Int} {rs : List (Option Nat)} (he : x_lk M.2.2 pc = some (.aaload, len, a, b, z)) (hk : k < 1000) (hs : sh[k]? = some (t, n, rs)) (ht : t = 32 ∨ t = 35 ∨ t = 36 ∨ t = 40) {j : Nat} (hi : i = (j : Int)) (hj : j < n) (hn : n < 100000) (hq : rs[j]? = some (some q)) (hq2 : q < 1000) (kk : x_Ex sc D M (pc + len) ls (xr q :: r) (sh, I, L) Q) : x_Ex sc D M pc ls (xi i :: xr k :: r) (sh, I, L) Q := by
  have hw : wr i = i := wr_id (by omega) (by omega)
  have h0 : 0 ≤ i := by omega
  have h1 : i < n := by omega
  have hj2 : i.toNat = j := by omega
  refine ex_sm he rfl ?_ kk
  simp only [x_sm, hk, hs, hw, if_true]
  rw [if_pos ⟨ht, h0, h1⟩, hj2, hq]
  simp [hq2]
theorem ex_lald {len a b k n : Nat} {z i : Int} {rs : List (Option Nat)} (he : x_lk M.2.2 pc = some (.laload, len, a, b, z)) (hk : k < 1000) (hs : sh[k]? = some (23, n, rs)) {j : Nat} (hi : i = (j : Int)) (hj : j < n) (hn : n < 100000) (kk : x_Ex sc D M (pc + len) ls (xl (L k j) :: r) (sh, I, L) Q) : x_Ex sc D M pc ls (xi i :: xr k :: r) (sh, I, L) Q := by
  have hw : wr i = i := wr_id (by omega) (by omega)
  have h0 : 0 ≤ i := by omega
  have h1 : i < n := by omega
  have hj2 : i.toNat = j := by omega
  refine ex_sm he rfl ?_ kk
  simp only [x_sm, hk, hs, hw, if_true]
  rw [if_pos ⟨trivial, h0, h1⟩, hj2]
theorem ex_iast {len a b k n : Nat} {z i v : Int} {rs : List (Option Nat)} (he : x_lk M.2.2 pc = some (.iastore, len, a, b, z)) (hk : k < 1000) (hs : sh[k]? = some (20, n, rs)) {j : Nat} (hi : i = (j : Int)) (hj : j < n) (hn : n < 100000) (kk : x_Ex sc D M (pc + len) ls r (sh, x_up I k j v, L) Q) : x_Ex sc D M pc ls (xi v :: xi i :: xr k :: r) (sh, I, L) Q := by
  have hw : wr i = i := wr_id (by omega) (by omega)
  have h0 : 0 ≤ i := by omega
  have h1 : i < n := by omega
  have hj2 : i.toNat = j := by omega
  refine ex_sm he rfl ?_ kk
  simp only [x_sm, hk, hs, hw, if_true]
  rw [if_pos ⟨trivial, h0, h1⟩, hj2]
theorem ex_bast {len a b k n : Nat} {z i v : Int} {rs : List (Option Nat)} (he : x_lk M.2.2 pc = some (.bastore, len, a, b, z)) (hk : k < 1000) (hs : sh[k]? = some (a, n, rs)) {j : Nat} (hi : i = (j : Int)) (hj : j < n) (hn : n < 100000) (hv : (a = 21 ∧ -128 ≤ v ∧ v < 128) ∨ (a = 22 ∧ (v = 0 ∨ v = 1))) (kk : x_Ex sc D M (pc + len) ls r (sh, x_up I k j v, L) Q) : x_Ex sc D M pc ls (xi v :: xi i :: xr k :: r) (sh, I, L) Q := by
  have hw : wr i = i := wr_id (by omega) (by omega)
  have h0 : 0 ≤ i := by omega
  have h1 : i < n := by omega
  have hj2 : i.toNat = j := by omega
  refine ex_sm he rfl ?_ kk
  simp only [x_sm, hk, hs, hw, if_true]
  rw [if_pos ⟨trivial, h0, h1, hv⟩, hj2]
theorem ex_last {len a b k n : Nat} {z i : Int} {v : Int64} {rs : List (Option Nat)} (he : x_lk M.2.2 pc = some (.lastore, len, a, b, z)) (hk : k < 1000) (hs : sh[k]? = some (23, n, rs)) {j : Nat} (hi : i = (j : Int)) (hj : j < n) (hn : n < 100000) (kk : x_Ex sc D M (pc + len) ls r (sh, I, x_upL L k j v) Q) : x_Ex sc D M pc ls (xl v :: xi i :: xr k :: r) (sh, I, L) Q := by
  have hw : wr i = i := wr_id (by omega) (by omega)
  have h0 : 0 ≤ i := by omega
  have h1 : i < n := by omega
  have hj2 : i.toNat = j := by omega
  refine ex_sm he rfl ?_ kk
  simp only [x_sm, hk, hs, hw, if_true]
  rw [if_pos ⟨trivial, h0, h1⟩, hj2]
/-- an int field read, by its shape -/
theorem ex_gfi {i len a b k n : Nat} {z : Int} {rs : List (Option Nat)} (he : x_lk M.2.2 pc = some (.getfield i, len, a, b, z)) (hk : k < 1000) (hs : sh[k]? = some (a, n, rs)) (ha : a < 10) (hb : b < n) (hr : rs[b]? = some none) (kk : x_Ex sc D M (pc + len) ls (xi (I k b) :: r) (sh, I, L) Q) : x_Ex sc D M pc ls (xr k :: r) (sh, I, L) Q := by
  refine ex_sm he rfl ?_ kk
  simp only [x_sm, hk, hs, if_true]
  rw [if_pos ⟨trivial, ha, hb⟩, hr]
theorem ex_gfr {i len a b k n q : Nat} {z : Int} {rs : List (Option Nat)} (he : x_lk M.2.2 pc = some (.getfield i, len, a, b, z)) (hk : k < 1000) (hs : sh[k]? = some (a, n, rs)) (ha : a < 10) (hb : b < n) (hr : rs[b]? = some (some q)) (kk : x_Ex sc D M (pc + len) ls (xr q :: r) (sh, I, L) Q) : x_Ex sc D M pc ls (xr k :: r) (sh, I, L) Q := by
  refine ex_sm he rfl ?_ kk
  simp only [x_sm, hk, hs, if_true]
  rw [if_pos ⟨trivial, ha, hb⟩, hr]
theorem ex_pfi {i len a b k n : Nat} {z v : Int} {rs : List (Option Nat)} (he : x_lk M.2.2 pc = some (.putfield i, len, a, b, z)) (hk : k < 1000) (hs : sh[k]? = some (a, n, rs)) (hb : b < n) (hr : rs[b]? = some none) (hz : z < 2) (hv : z = 1 → v = 0 ∨ v = 1) (kk : x_Ex sc D M (pc + len) ls r (sh, x_up I k b v, L) Q) : x_Ex sc D M pc ls (xi v :: xr k :: r) (sh, I, L) Q := by
  refine ex_sm he rfl ?_ kk
  simp only [x_sm, hk, hs, if_true]
  rw [if_pos ⟨trivial, hb, hr, hv, hz⟩]
theorem ex_idiv {len a b : Nat} {z x y : Int} (he : x_lk M.2.2 pc = some (.idiv, len, a, b, z)) (hx : x_R x) (hy : x_R y) (hn : y ≠ 0) (kk : x_Ex sc D M (pc + len) ls (xi (x.tdiv y) :: r) m Q) : x_Ex sc D M pc ls (xi y :: xi x :: r) m Q := by
  refine ex_sm he rfl ?_ kk
  simp only [x_sm, hx.wr, hy.wr]
  rw [if_neg hn]
theorem ex_irem {len a b : Nat} {z x y : Int} (he : x_lk M.2.2 pc = some (.irem, len, a, b, z)) (hx : x_R x) (hy : x_R y) (hn : y ≠ 0) (kk : x_Ex sc D M (pc + len) ls (xi (x.tmod y) :: r) m Q) : x_Ex sc D M pc ls (xi y :: xi x :: r) m Q := by
  refine ex_sm he rfl ?_ kk
  simp only [x_sm, hx.wr, hy.wr]
  rw [if_neg hn]
theorem ex_cpy {i len b ka kb na nb : Nat} {z n sp dp : Int} {ra rb : List (Option Nat)} (he : x_lk M.2.2 pc = some (.invokestatic i, len, 900, b, z)) (hk : ka < 1000 ∧ kb < 1000) (ha : sh[ka]? = some (20, na, ra)) (hb : sh[kb]? = some (20, nb, rb)) {nn sn dn : Nat} (hj : n = (nn : Int) ∧ sp = (sn : Int) ∧ dp = (dn : Int)) (hs : (r.map x_cat).sum ≤ 8) (h3 : sn + nn ≤ na ∧ na < 100000) (h4 : dn + nn ≤ nb ∧ nb < 100000) (kk : x_Ex sc D M (pc + len) ls r (sh, x_cp I ka sn kb dn nn, L) Q) : x_Ex sc D M pc ls (xi n :: xi dp :: xr kb :: xi sp :: xr ka :: r) (sh, I, L) Q := by
  obtain ⟨rfl, rfl, rfl⟩ := hj
  have h0 : (0 : Int) ≤ nn ∧ (0 : Int) ≤ sn ∧ (0 : Int) ≤ dn ∧ (nn : Int) < 100000 ∧ (sn : Int) < 100000 ∧ (dn : Int) < 100000 := by omega
  have h1 : (sn : Int) + nn ≤ na := by omega
  have h2 : (dn : Int) + nn ≤ nb := by omega
  refine ex_sm he rfl ?_ kk
  simp only [x_sm, ha, hb, Int.toNat_natCast]
  rw [if_neg (by decide), if_pos ⟨trivial, hk.1, hk.2, h0.1, h0.2.1, h0.2.2.1, h0.2.2.2.1, h0.2.2.2.2.1, h0.2.2.2.2.2, hs⟩, if_pos ⟨h1, h2⟩, if_pos ⟨trivial, trivial⟩]
theorem ex_cpyL {i len b ka kb na nb : Nat} {z n sp dp : Int} {ra rb : List (Option Nat)} (he : x_lk M.2.2 pc = some (.invokestatic i, len, 900, b, z)) (hk : ka < 1000 ∧ kb < 1000) (ha : sh[ka]? = some (23, na, ra)) (hb : sh[kb]? = some (23, nb, rb)) {nn sn dn : Nat} (hj : n = (nn : Int) ∧ sp = (sn : Int) ∧ dp = (dn : Int)) (hs : (r.map x_cat).sum ≤ 8) (h3 : sn + nn ≤ na ∧ na < 100000) (h4 : dn + nn ≤ nb ∧ nb < 100000) (kk : x_Ex sc D M (pc + len) ls r (sh, I, x_cpL L ka sn kb dn nn) Q) : x_Ex sc D M pc ls (xi n :: xi dp :: xr kb :: xi sp :: xr ka :: r) (sh, I, L) Q := by
  obtain ⟨rfl, rfl, rfl⟩ := hj
  have h0 : (0 : Int) ≤ nn ∧ (0 : Int) ≤ sn ∧ (0 : Int) ≤ dn ∧ (nn : Int) < 100000 ∧ (sn : Int) < 100000 ∧ (dn : Int) < 100000 := by omega
  have h1 : (sn : Int) + nn ≤ na := by omega
  have h2 : (dn : Int) + nn ≤ nb := by omega
  refine ex_sm he rfl ?_ kk
  simp only [x_sm, ha, hb, Int.toNat_natCast]
  rw [if_neg (by decide), if_pos ⟨trivial, hk.1, hk.2, h0.1, h0.2.1, h0.2.2.1, h0.2.2.2.1, h0.2.2.2.2.1, h0.2.2.2.2.2, hs⟩, if_pos ⟨h1, h2⟩, if_neg (by decide), if_pos ⟨trivial, trivial⟩]
def x_b (P : Prop) [Decidable P] : Int := if P then 1 else 0
theorem x_b01 (P : Prop) [Decidable P] : x_b P = 0 ∨ x_b P = 1 := by unfold x_b; split <;> simp
theorem x_bR (P : Prop) [Decidable P] : x_R (x_b P) := by unfold x_b; split <;> decide
/-- a branch on a truth -/
theorem ex_bne {off : Int} {a b : Nat} {z : Int} {P : Prop} [Decidable P] (he : x_lk M.2.2 pc = some (.ifCond .ne off, 3, a, b, z)) (ht : P → x_Ex sc D M a ls r m Q) (hf : ¬ P → x_Ex sc D M (pc + 3) ls r m Q) : x_Ex sc D M pc ls (xi (x_b P) :: r) m Q := by
  refine ex_if he (x_bR P) (fun h => ?_) (fun h => ?_)
  · exact ht (by by_cases hp : P; exact hp; exact absurd (by unfold x_b; rw [if_neg hp]) h)
  · exact hf (fun hp => h (by show ¬ x_b P = 0; unfold x_b; rw [if_pos hp]; decide))
theorem ex_beq {off : Int} {a b : Nat} {z : Int} {P : Prop} [Decidable P] (he : x_lk M.2.2 pc = some (.ifCond .eq off, 3, a, b, z)) (ht : ¬ P → x_Ex sc D M a ls r m Q) (hf : P → x_Ex sc D M (pc + 3) ls r m Q) : x_Ex sc D M pc ls (xi (x_b P) :: r) m Q := by
  refine ex_if he (x_bR P) (fun h => ?_) (fun h => ?_)
  · exact ht (fun hp => by have h2 : x_b P = 0 := h; unfold x_b at h2; rw [if_pos hp] at h2; cases h2)
  · exact hf (by by_cases hp : P; exact hp; exact absurd (show x_b P = 0 by unfold x_b; rw [if_neg hp]) h)
theorem ex_reti {len a b : Nat} {z v : Int} (hM : M.1 = 1) (he : x_lk M.2.2 pc = some (.ireturn, len, a, b, z)) (hq : Q (some (xi v)) m) : x_Ex sc D M pc ls [xi v] m Q :=
  ex_ret he rfl (by simp [x_ret, hM]) hq
theorem ex_retz {len a b : Nat} {z v : Int} (hM : M.1 = 2) (hv : v = 0 ∨ v = 1) (he : x_lk M.2.2 pc = some (.ireturn, len, a, b, z)) (hq : Q (some (xi v)) m) : x_Ex sc D M pc ls [xi v] m Q :=
  ex_ret he rfl (by simp [x_ret, hM, hv]) hq
theorem ex_retc {len a b : Nat} {z v : Int} (hM : M.1 = 3) (h0 : 0 ≤ v) (h1 : v < 65536) (he : x_lk M.2.2 pc = some (.ireturn, len, a, b, z)) (hq : Q (some (xi v)) m) : x_Ex sc D M pc ls [xi v] m Q :=
  ex_ret he rfl (by simp [x_ret, hM, h0, h1]) hq
theorem ex_retl {len a b : Nat} {z : Int} {v : Int64} (hM : M.1 = 4) (he : x_lk M.2.2 pc = some (.lreturn, len, a, b, z)) (hq : Q (some (xl v)) m) : x_Ex sc D M pc ls [xl v] m Q :=
  ex_ret he rfl (by simp [x_ret, hM]) hq
theorem ex_retr {len a b v : Nat} {z : Int} (hM : M.1 = 5) (hv : v < 1000) (he : x_lk M.2.2 pc = some (.areturn, len, a, b, z)) (hq : Q (some (xr v)) m) : x_Ex sc D M pc ls [xr v] m Q :=
  ex_ret he rfl (by simp [x_ret, hM, hv]) hq
theorem ex_retv {len a b : Nat} {z : Int} (hM : M.1 = 0) (he : x_lk M.2.2 pc = some (.return_, len, a, b, z)) (hq : Q none m) : x_Ex sc D M pc ls [] m Q :=
  ex_ret he rfl (by simp [x_ret, hM]) hq
end EX
