/-! the class's reader -/
def TXc (I : Nat → Nat → Int) (n : Nat) (tx : Nat → Nat) : Prop := I 85 1 = (n : Int) ∧ n ≤ 100 ∧ ∀ j, j < n → I 86 j = (tx j : Int) ∧ tx j < 128
def CD (I : Nat → Nat → Int) (T : Nat) (cs : List Int) : Prop := I T 5 = ((cs.length : Nat) : Int) ∧ ∀ j, j < cs.length → I (T + 3) j = (cs[j]?).getD 0
theorem TXc.fr {I I' : Nat → Nat → Int} {n : Nat} {tx : Nat → Nat} (h : TXc I n tx) (e1 : I' 85 1 = I 85 1) (e : ∀ j, I' 86 j = I 86 j) : TXc I' n tx :=
  ⟨by rw [e1]; exact h.1, h.2.1, fun j hj => by rw [e]; exact h.2.2 j hj⟩
theorem TXc.lt {I : Nat → Nat → Int} {n : Nat} {tx : Nat → Nat} (h : TXc I n tx) (p : Nat) : pg n tx p < 128 := by
  unfold pg
  split
  · exact (h.2.2 p (by assumption)).2
  · decide
theorem CD.fr {I I' : Nat → Nat → Int} {T : Nat} {cs : List Int} (h : CD I T cs) (e1 : I' T 5 = I T 5) (e : ∀ j, I' (T + 3) j = I (T + 3) j) : CD I' T cs :=
  ⟨by rw [e1]; exact h.1, fun j hj => by rw [e]; exact h.2 j hj⟩
theorem z_i2c_id : ∀ t : Nat, t < 128 → z_i2c ((t : Nat) : Int) = (t : Int) := by decide +kernel
theorem ex_iand {sc : List Int} {D : Nat} {M : xMt} {pc : Nat} {ls : xLc} {r : List xPV} {m : xMem} {Q : Option xPV → xMem → Prop} {len a b : Nat} {z x y : Int} (he : x_lk M.2.2 pc = some (.iand, len, a, b, z)) (kk : x_Ex sc D M (pc + len) ls (xi (z_and x y) :: r) m Q) : x_Ex sc D M pc ls (xi y :: xi x :: r) m Q :=
  ex_sm he rfl rfl kk
theorem ex_ishr {sc : List Int} {D : Nat} {M : xMt} {pc : Nat} {ls : xLc} {r : List xPV} {m : xMem} {Q : Option xPV → xMem → Prop} {len a b : Nat} {z x y : Int} (he : x_lk M.2.2 pc = some (.ishr, len, a, b, z)) (kk : x_Ex sc D M (pc + len) ls (xi (z_shr x y) :: r) m Q) : x_Ex sc D M pc ls (xi y :: xi x :: r) m Q :=
  ex_sm he rfl rfl kk
theorem ex_i2c {sc : List Int} {D : Nat} {M : xMt} {pc : Nat} {ls : xLc} {r : List xPV} {m : xMem} {Q : Option xPV → xMem → Prop} {len a b : Nat} {z x : Int} (he : x_lk M.2.2 pc = some (.i2c, len, a, b, z)) (kk : x_Ex sc D M (pc + len) ls (xi (z_i2c x) :: r) m Q) : x_Ex sc D M pc ls (xi x :: r) m Q :=
  ex_sm he rfl rfl kk
theorem ex_i2b {sc : List Int} {D : Nat} {M : xMt} {pc : Nat} {ls : xLc} {r : List xPV} {m : xMem} {Q : Option xPV → xMem → Prop} {len a b : Nat} {z x : Int} (he : x_lk M.2.2 pc = some (.i2b, len, a, b, z)) (kk : x_Ex sc D M (pc + len) ls (xi (z_i2b x) :: r) m Q) : x_Ex sc D M pc ls (xi x :: r) m Q :=
  ex_sm he rfl rfl kk
theorem ex_cbald {sc : List Int} {D : Nat} {M : xMt} {pc : Nat} {ls : xLc} {r : List xPV} {m : xMem} {Q : Option xPV → xMem → Prop} {len a b k : Nat} {z i : Int} {ct : List Int} {v : Int} (he : x_lk M.2.2 pc = some (.baload, len, a, b, z)) (hk : 1000 ≤ k) (hs : x_cArr sc k = some (a, ct)) {j : Nat} (hi : i = (j : Int)) (hj : j < ct.length) (hn : ct.length < 100000) (hv : ct[j]? = some v) (kk : x_Ex sc D M (pc + len) ls (xi v :: r) m Q) : x_Ex sc D M pc ls (xi i :: xr k :: r) m Q := by
  have hw : wr i = i := wr_id (by omega) (by omega)
  have h0 : 0 ≤ i := by omega
  have h1 : i < ct.length := by omega
  have hj2 : i.toNat = j := by omega
  refine ex_sm he rfl ?_ kk
  simp only [x_sm, x_ald, Nat.not_lt.mpr hk, hs, hw, if_false]
  rw [if_pos ⟨trivial, h0, h1⟩, hj2, hv]
theorem ex_max {sc : List Int} {D : Nat} {M : xMt} {pc : Nat} {ls : xLc} {r : List xPV} {m : xMem} {Q : Option xPV → xMem → Prop} {i len b : Nat} {z x y : Int} (he : x_lk M.2.2 pc = some (.invokestatic i, len, 902, b, z)) (hx : x_R x) (hy : x_R y) (hs : (r.map x_cat).sum ≤ 7) (kk : x_Ex sc D M (pc + len) ls (xi (if x < y then y else x) :: r) m Q) : x_Ex sc D M pc ls (xi y :: xi x :: r) m Q := by
  refine ex_sm he rfl ?_ kk
  have h1 : ((xi x :: r).map x_cat).sum = 1 + (r.map x_cat).sum := rfl
  simp only [x_sm, x_math, hx.wr, hy.wr]
  rw [if_pos (Or.inl trivial), if_pos (by omega)]
  rfl
theorem ex_ret6 {sc : List Int} {D : Nat} {M : xMt} {pc : Nat} {ls : xLc} {m : xMem} {Q : Option xPV → xMem → Prop} {len a b : Nat} {z v : Int} (hM : M.1 = 6) (h0 : -128 ≤ v) (h1 : v < 128) (he : x_lk M.2.2 pc = some (.ireturn, len, a, b, z)) (hq : Q (some (xi v)) m) : x_Ex sc D M pc ls [xi v] m Q :=
  ex_ret he rfl (by simp [x_ret, hM, h0, h1]) hq
theorem ct_R_signAt {sc : List Int} {I : Nat → Nat → Int} {L : Nat → Nat → Int64} {n : Nat} {tx : Nat → Nat} (hT : TXc I n tx) {p : Nat} (hp : p < 1000) : x_CE sc 1 xN_R_signAt [xr 85, xi (↑p)] (xSH, I, L) (some (xi (↑(pg n tx p)))) (xSH, I, L) := by
  obtain ⟨h1, h2, h3⟩ := hT
  refine x_CE.of (M := xM_R_signAt) rfl (Nat.le_of_ble_eq_true rfl) ?_
  refine ex_st 1 (pc' := 1) (ls' := [(0, xr 85), (1, xi (↑p))]) (st' := [xi (↑p)]) rfl ?_
  refine ex_if rfl (by constructor <;> omega) (fun (h0 : (↑p : Int) < 0) => ?_) (fun (h0 : ¬ (↑p : Int) < 0) => ?_)
  · exfalso; omega
  refine ex_st 3 (pc' := 9) (ls' := [(0, xr 85), (1, xi (↑p))]) (st' := [xi (I 85 1), xi (↑p)]) rfl ?_
  rw [h1]
  refine ex_ic rfl (by constructor <;> omega) (by constructor <;> omega) (fun (h4 : (↑n : Int) ≤ (↑p : Int)) => ?_) (fun (h4 : ¬ (↑n : Int) ≤ (↑p : Int)) => ?_)
  · refine ex_st 1 (pc' := 23) (ls' := [(0, xr 85), (1, xi (↑p))]) (st' := [xi 0]) rfl ?_
    refine ex_retc rfl (by omega) (by omega) rfl ?_
    exact ⟨by unfold pg; rw [if_neg (by omega)]; rfl, rfl⟩
  · refine ex_st 3 (pc' := 17) (ls' := [(0, xr 85), (1, xi (↑p))]) (st' := [xi (↑p), xr 86]) rfl ?_
    refine ex_bald (j := p) rfl (by decide) (rfl : xSH[86]? = some _) rfl (by omega) (by decide) ?_
    have h5 := h3 p (by omega)
    rw [h5.1]
    refine ex_i2c rfl ?_
    rw [z_i2c_id _ h5.2]
    refine ex_st 1 (pc' := 23) (ls' := [(0, xr 85), (1, xi (↑p))]) (st' := [xi (↑(tx p))]) rfl ?_
    refine ex_retc rfl (by omega) (by omega) rfl ?_
    exact ⟨by unfold pg; rw [if_pos (by omega)], rfl⟩
theorem ct_R_skip_n {sc : List Int} {I : Nat → Nat → Int} {L : Nat → Nat → Int64} {n : Nat} {tx : Nat → Nat} (hT : TXc I n tx) {a : Nat} (ha : I 85 2 = (a : Int)) (han : a ≤ n) {c : Nat} (hc : c < 128) (h : pg n tx a ≠ c) : x_CE sc 2 xN_R_skip [xr 85, xi (↑c)] (xSH, I, L) (some (xi 0)) (xSH, I, L) := by
  have h128 := hT.lt a
  have hn := hT.2.1
  refine x_CE.of (M := xM_R_skip) rfl (Nat.le_of_ble_eq_true rfl) ?_
  refine ex_st 3 (pc' := 5) (ls' := [(0, xr 85), (1, xi (↑c))]) (st' := [xi (I 85 2), xr 85]) rfl ?_
  rw [ha]
  refine ex_call (ct_R_signAt hT (p := a) (by omega)) (by decide) rfl ⟨rfl, rfl, rfl⟩ ⟨Nat.le_of_ble_eq_true rfl, rfl, rfl⟩ (Nat.le_of_ble_eq_true rfl) rfl ?_
  refine ex_st 1 (pc' := 9) (ls' := [(0, xr 85), (1, xi (↑c))]) (st' := [xi (↑c), xi (↑(pg n tx a))]) rfl ?_
  refine ex_ic rfl (by constructor <;> omega) (by constructor <;> omega) (fun (h4 : (↑(pg n tx a) : Int) = (↑c : Int)) => ?_) (fun (h4 : ¬ (↑(pg n tx a) : Int) = (↑c : Int)) => ?_)
  · exfalso; omega
  · refine ex_st 1 (pc' := 13) (ls' := [(0, xr 85), (1, xi (↑c))]) (st' := [xi 0]) rfl ?_
    refine ex_retz rfl (Or.inl rfl) rfl ?_
    exact ⟨rfl, rfl⟩
theorem ct_R_skip_y {sc : List Int} {I : Nat → Nat → Int} {L : Nat → Nat → Int64} {n : Nat} {tx : Nat → Nat} (hT : TXc I n tx) {a : Nat} (ha : I 85 2 = (a : Int)) (han : a ≤ n) {c : Nat} (hc : c < 128) (h : pg n tx a = c) : x_CQ sc 2 xN_R_skip [xr 85, xi (↑c)] (xSH, I, L) (fun r m' => r = some (xi 1) ∧ ∃ I', m' = (xSH, I', L) ∧ I' 85 2 = ((a + 1 : Nat) : Int) ∧ ∀ k j, ¬ (k = 85 ∧ j = 2) → I' k j = I k j) := by
  have h128 := hT.lt a
  have hn := hT.2.1
  refine x_CQ.of (M := xM_R_skip) rfl (Nat.le_of_ble_eq_true rfl) ?_
  refine ex_st 3 (pc' := 5) (ls' := [(0, xr 85), (1, xi (↑c))]) (st' := [xi (I 85 2), xr 85]) rfl ?_
  rw [ha]
  refine ex_call (ct_R_signAt hT (p := a) (by omega)) (by decide) rfl ⟨rfl, rfl, rfl⟩ ⟨Nat.le_of_ble_eq_true rfl, rfl, rfl⟩ (Nat.le_of_ble_eq_true rfl) rfl ?_
  refine ex_st 1 (pc' := 9) (ls' := [(0, xr 85), (1, xi (↑c))]) (st' := [xi (↑c), xi (↑(pg n tx a))]) rfl ?_
  refine ex_ic rfl (by constructor <;> omega) (by constructor <;> omega) (fun (h4 : (↑(pg n tx a) : Int) = (↑c : Int)) => ?_) (fun (h4 : ¬ (↑(pg n tx a) : Int) = (↑c : Int)) => ?_)
  · refine ex_st 3 (pc' := 19) (ls' := [(0, xr 85), (1, xi (↑c))]) (st' := [xi (I 85 2), xr 85]) rfl ?_
    rw [ha]
    refine ex_st 2 (pc' := 21) (ls' := [(0, xr 85), (1, xi (↑c))]) (st' := [xi (↑a + 1), xr 85]) rfl ?_
    refine ex_pfi rfl (by decide) (rfl : xSH[85]? = some _) (by decide) rfl (by decide) (fun h => by cases h) ?_
    refine ex_st 1 (pc' := 25) (ls' := [(0, xr 85), (1, xi (↑c))]) (st' := [xi 1]) rfl ?_
    refine ex_retz rfl (Or.inr rfl) rfl ?_
    exact ⟨rfl, _, rfl, by rw [x_up_at]; rfl, fun k j hk => x_up_far hk⟩
  · exfalso; omega
theorem ct_addC {sc : List Int} {I : Nat → Nat → Int} {L : Nat → Nat → Int64} {T : Nat} (hTS : TS T) {cs : List Int} (hC : CD I T cs) (hl : cs.length < 100) {cd : Int} : x_CQ sc 1 xN_Tr_addCode [xr T, xi cd] (xSH, I, L) (fun r m' => r = none ∧ ∃ I', m' = (xSH, I', L) ∧ CD I' T (cs ++ [cd]) ∧ ∀ k j, ¬ (k = T ∧ j = 5) → k ≠ T + 3 → I' k j = I k j) := by
  obtain ⟨r, m', hQ, hE⟩ := ct_Tr_addCode (sc := sc) (L := L) hTS hC.1 hl (cd := cd)
  obtain ⟨h1, I', h2, h3, h4, h5⟩ := hQ
  refine ⟨r, m', ⟨h1, I', h2, ⟨?_, fun j hj => ?_⟩, fun k j a b => h5 k j (fun q => b q.1) a⟩, hE⟩
  · rw [h4]; simp
  · rw [sp_app]
    by_cases e : j = cs.length
    · rw [if_pos e, e]; exact h3
    · rw [if_neg e, h5 _ _ (fun q => e q.2) (by omega)]
      exact hC.2 j (by simp at hj; omega)
/-- a word's signs, and how far they stand -/
def p_w (n : Nat) (tx : Nat → Nat) : List Nat → Nat → Nat × Bool
  | [], a => (a, true)
  | c :: w, a => if pg n tx a = c then p_w n tx w (a + 1) else (a, false)

theorem ct_R_skipWord1010 {sc : List Int} {I : Nat → Nat → Int} {L : Nat → Nat → Int64} {n : Nat} {tx : Nat → Nat} (hT : TXc I n tx) {a : Nat} (ha : I 85 2 = (a : Int)) (han : a ≤ n) : x_CQ sc 9 xN_R_skipWord [xr 85, xr 1010] (xSH, I, L) (fun r m' => r = some (xi (x_b ((p_w n tx [108, 105, 107, 101, 32] a).2 = true))) ∧ ∃ I', m' = (xSH, I', L) ∧ I' 85 2 = ((p_w n tx [108, 105, 107, 101, 32] a).1 : Int) ∧ (∀ k j, ¬ (k = 85 ∧ j = 2) → I' k j = I k j) ∧ (p_w n tx [108, 105, 107, 101, 32] a).1 ≤ n) := by
  have hn100 := hT.2.1
  refine x_CQ.of (M := xM_R_skipWord) rfl (Nat.le_of_ble_eq_true rfl) ?_
  refine ex_st 4 (pc' := 4) (ls' := [(2, xi 0), (0, xr 85), (1, xr 1010)]) (st' := [xr 1010, xi 0]) rfl ?_
  refine ex_inl (M' := xM_S_length) (as := [xr 1010]) (rest := [xi 0]) (D' := 7) rfl (Nat.le_of_ble_eq_true rfl) (by decide) rfl ⟨rfl, rfl, rfl⟩ ⟨Nat.le_of_ble_eq_true rfl, rfl, rfl⟩ (Nat.le_of_ble_eq_true rfl) rfl ?_
  refine ex_st 4 (pc' := 6) (ls' := [(0, xr 1010)]) (st' := [xr 1010, xi 5]) rfl ?_
  refine ex_inl (M' := xM_S_coder) (as := [xr 1010]) (rest := [xi 5]) (D' := 6) rfl (Nat.le_of_ble_eq_true rfl) (by decide) rfl ⟨rfl, rfl, rfl⟩ ⟨Nat.le_of_ble_eq_true rfl, rfl, rfl⟩ (Nat.le_of_ble_eq_true rfl) rfl ?_
  refine ex_st 1 (pc' := 3) (ls' := [(0, xr 1010)]) (st' := [xi 1]) rfl ?_
  refine ex_st 1 (pc' := 6) (ls' := [(0, xr 1010)]) (st' := []) rfl ?_
  refine ex_st 3 (pc' := 14) (ls' := [(0, xr 1010)]) (st' := [xi 0]) rfl ?_
  refine ex_ret6 rfl (by omega) (by omega) rfl ?_
  refine ex_ishr rfl ?_
  rw [show z_shr 5 0 = 5 by decide +kernel]
  refine ex_reti rfl rfl ?_
  refine ex_st 1 (pc' := 10) (ls' := [(2, xi 0), (0, xr 85), (1, xr 1010)]) (st' := []) rfl ?_
  refine ex_st 3 (pc' := 13) (ls' := [(2, xi 0), (0, xr 85), (1, xr 1010)]) (st' := [xi 0, xr 1010, xr 85]) rfl ?_
  refine ex_inl (M' := xM_S_charAt) (as := [xr 1010, xi 0]) (rest := [xr 85]) (D' := 7) rfl (Nat.le_of_ble_eq_true rfl) (by decide) rfl ⟨rfl, rfl, rfl⟩ ⟨Nat.le_of_ble_eq_true rfl, rfl, rfl⟩ (Nat.le_of_ble_eq_true rfl) rfl ?_
  refine ex_st 1 (pc' := 1) (ls' := [(0, xr 1010), (1, xi 0)]) (st' := [xr 1010]) rfl ?_
  refine ex_inl (M' := xM_S_isLatin1) (as := [xr 1010]) (rest := []) (D' := 6) rfl (Nat.le_of_ble_eq_true rfl) (by decide) rfl ⟨rfl, rfl, rfl⟩ ⟨Nat.le_of_ble_eq_true rfl, rfl, rfl⟩ (Nat.le_of_ble_eq_true rfl) rfl ?_
  refine ex_st 1 (pc' := 3) (ls' := [(0, xr 1010)]) (st' := [xi 1]) rfl ?_
  refine ex_st 1 (pc' := 6) (ls' := [(0, xr 1010)]) (st' := []) rfl ?_
  refine ex_st 2 (pc' := 10) (ls' := [(0, xr 1010)]) (st' := [xi 0]) rfl ?_
  refine ex_st 1 (pc' := 13) (ls' := [(0, xr 1010)]) (st' := []) rfl ?_
  refine ex_st 2 (pc' := 18) (ls' := [(0, xr 1010)]) (st' := [xi 1]) rfl ?_
  refine ex_retz rfl (Or.inr rfl) rfl ?_
  refine ex_st 1 (pc' := 7) (ls' := [(0, xr 1010), (1, xi 0)]) (st' := []) rfl ?_
  refine ex_st 3 (pc' := 12) (ls' := [(0, xr 1010), (1, xi 0)]) (st' := [xi 0, xr 1020]) rfl ?_
  refine ex_inl (M' := xM_L1_charAt) (as := [xr 1020, xi 0]) (rest := []) (D' := 6) rfl (Nat.le_of_ble_eq_true rfl) (by decide) rfl ⟨rfl, rfl, rfl⟩ ⟨Nat.le_of_ble_eq_true rfl, rfl, rfl⟩ (Nat.le_of_ble_eq_true rfl) rfl ?_
  refine ex_st 3 (pc' := 3) (ls' := [(0, xr 1020), (1, xi 0)]) (st' := [xi 5, xi 0]) rfl ?_
  refine ex_inl (M' := xM_S_checkIndex) (as := [xi 0, xi 5]) (rest := []) (D' := 5) rfl (Nat.le_of_ble_eq_true rfl) (by decide) rfl ⟨rfl, rfl, rfl⟩ ⟨Nat.le_of_ble_eq_true rfl, rfl, rfl⟩ (Nat.le_of_ble_eq_true rfl) rfl ?_
  refine ex_st 3 (pc' := 5) (ls' := [(0, xi 0), (1, xi 5)]) (st' := [xr 1030, xi 5, xi 0]) rfl ?_
  refine ex_inl (M' := xM_Pc_checkIndex) (as := [xi 0, xi 5, xr 1030]) (rest := []) (D' := 4) rfl (Nat.le_of_ble_eq_true rfl) (by decide) rfl ⟨rfl, rfl, rfl⟩ ⟨Nat.le_of_ble_eq_true rfl, rfl, rfl⟩ (Nat.le_of_ble_eq_true rfl) rfl ?_
  refine ex_st 1 (pc' := 1) (ls' := [(0, xi 0), (1, xi 5), (2, xr 1030)]) (st' := [xi 0]) rfl ?_
  refine ex_st 1 (pc' := 4) (ls' := [(0, xi 0), (1, xi 5), (2, xr 1030)]) (st' := []) rfl ?_
  refine ex_st 2 (pc' := 6) (ls' := [(0, xi 0), (1, xi 5), (2, xr 1030)]) (st' := [xi 5, xi 0]) rfl ?_
  refine ex_st 1 (pc' := 16) (ls' := [(0, xi 0), (1, xi 5), (2, xr 1030)]) (st' := []) rfl ?_
  refine ex_st 1 (pc' := 17) (ls' := [(0, xi 0), (1, xi 5), (2, xr 1030)]) (st' := [xi 0]) rfl ?_
  refine ex_reti rfl rfl ?_
  refine ex_st 1 (pc' := 9) (ls' := [(0, xi 0), (1, xi 5)]) (st' := []) rfl ?_
  refine ex_retv rfl rfl ?_
  refine ex_st 2 (pc' := 8) (ls' := [(0, xr 1020), (1, xi 0)]) (st' := [xi 0, xr 1020]) rfl ?_
  refine ex_cbald (v := 108) (j := 0) rfl (by decide) rfl rfl (by decide) (by decide) rfl ?_
  refine ex_st 1 (pc' := 12) (ls' := [(0, xr 1020), (1, xi 0)]) (st' := [xi 255, xi 108]) rfl ?_
  refine ex_iand rfl ?_
  rw [show z_and 108 255 = 108 by decide +kernel]
  refine ex_i2c rfl ?_
  rw [show z_i2c 108 = 108 by decide +kernel]
  refine ex_retc rfl (by omega) (by omega) rfl ?_
  refine ex_retc rfl (by omega) (by omega) rfl ?_
  by_cases k1 : pg n tx (a) = 108
  · have a9 := pg_lt (n := n) (tx := tx) (a := a) (by omega)
    refine ex_callQ (ct_R_skip_y (L := L) hT ha (by omega) (c := 108) (by decide) k1) (by decide) rfl ⟨rfl, rfl, rfl⟩ ⟨Nat.le_of_ble_eq_true rfl, rfl, rfl⟩ (Nat.le_of_ble_eq_true rfl) rfl (fun ra m2 hQ => ?_)
    obtain ⟨rfl, J1, rfl, aJ1, gJ1⟩ := hQ
    have fJ1 : ∀ k j, ¬ (k = 85 ∧ j = 2) → J1 k j = I k j := fun k j hk => by rw [gJ1 k j (by omega)]
    have tJ1 : TXc J1 n tx := hT.fr (fJ1 _ _ (by omega)) (fun j => fJ1 _ _ (by omega))
    refine ex_st 1 (pc' := 24) (ls' := [(2, xi 0), (0, xr 85), (1, xr 1010)]) (st' := []) rfl ?_
    refine ex_st 4 (pc' := 4) (ls' := [(2, xi 1), (0, xr 85), (1, xr 1010)]) (st' := [xr 1010, xi 1]) rfl ?_
    refine ex_inl (M' := xM_S_length) (as := [xr 1010]) (rest := [xi 1]) (D' := 7) rfl (Nat.le_of_ble_eq_true rfl) (by decide) rfl ⟨rfl, rfl, rfl⟩ ⟨Nat.le_of_ble_eq_true rfl, rfl, rfl⟩ (Nat.le_of_ble_eq_true rfl) rfl ?_
    refine ex_st 4 (pc' := 6) (ls' := [(0, xr 1010)]) (st' := [xr 1010, xi 5]) rfl ?_
    refine ex_inl (M' := xM_S_coder) (as := [xr 1010]) (rest := [xi 5]) (D' := 6) rfl (Nat.le_of_ble_eq_true rfl) (by decide) rfl ⟨rfl, rfl, rfl⟩ ⟨Nat.le_of_ble_eq_true rfl, rfl, rfl⟩ (Nat.le_of_ble_eq_true rfl) rfl ?_
    refine ex_st 1 (pc' := 3) (ls' := [(0, xr 1010)]) (st' := [xi 1]) rfl ?_
    refine ex_st 1 (pc' := 6) (ls' := [(0, xr 1010)]) (st' := []) rfl ?_
    refine ex_st 3 (pc' := 14) (ls' := [(0, xr 1010)]) (st' := [xi 0]) rfl ?_
    refine ex_ret6 rfl (by omega) (by omega) rfl ?_
    refine ex_ishr rfl ?_
    rw [show z_shr 5 0 = 5 by decide +kernel]
    refine ex_reti rfl rfl ?_
    refine ex_st 1 (pc' := 10) (ls' := [(2, xi 1), (0, xr 85), (1, xr 1010)]) (st' := []) rfl ?_
    refine ex_st 3 (pc' := 13) (ls' := [(2, xi 1), (0, xr 85), (1, xr 1010)]) (st' := [xi 1, xr 1010, xr 85]) rfl ?_
    refine ex_inl (M' := xM_S_charAt) (as := [xr 1010, xi 1]) (rest := [xr 85]) (D' := 7) rfl (Nat.le_of_ble_eq_true rfl) (by decide) rfl ⟨rfl, rfl, rfl⟩ ⟨Nat.le_of_ble_eq_true rfl, rfl, rfl⟩ (Nat.le_of_ble_eq_true rfl) rfl ?_
    refine ex_st 1 (pc' := 1) (ls' := [(0, xr 1010), (1, xi 1)]) (st' := [xr 1010]) rfl ?_
    refine ex_inl (M' := xM_S_isLatin1) (as := [xr 1010]) (rest := []) (D' := 6) rfl (Nat.le_of_ble_eq_true rfl) (by decide) rfl ⟨rfl, rfl, rfl⟩ ⟨Nat.le_of_ble_eq_true rfl, rfl, rfl⟩ (Nat.le_of_ble_eq_true rfl) rfl ?_
    refine ex_st 1 (pc' := 3) (ls' := [(0, xr 1010)]) (st' := [xi 1]) rfl ?_
    refine ex_st 1 (pc' := 6) (ls' := [(0, xr 1010)]) (st' := []) rfl ?_
    refine ex_st 2 (pc' := 10) (ls' := [(0, xr 1010)]) (st' := [xi 0]) rfl ?_
    refine ex_st 1 (pc' := 13) (ls' := [(0, xr 1010)]) (st' := []) rfl ?_
    refine ex_st 2 (pc' := 18) (ls' := [(0, xr 1010)]) (st' := [xi 1]) rfl ?_
    refine ex_retz rfl (Or.inr rfl) rfl ?_
    refine ex_st 1 (pc' := 7) (ls' := [(0, xr 1010), (1, xi 1)]) (st' := []) rfl ?_
    refine ex_st 3 (pc' := 12) (ls' := [(0, xr 1010), (1, xi 1)]) (st' := [xi 1, xr 1020]) rfl ?_
    refine ex_inl (M' := xM_L1_charAt) (as := [xr 1020, xi 1]) (rest := []) (D' := 6) rfl (Nat.le_of_ble_eq_true rfl) (by decide) rfl ⟨rfl, rfl, rfl⟩ ⟨Nat.le_of_ble_eq_true rfl, rfl, rfl⟩ (Nat.le_of_ble_eq_true rfl) rfl ?_
    refine ex_st 3 (pc' := 3) (ls' := [(0, xr 1020), (1, xi 1)]) (st' := [xi 5, xi 1]) rfl ?_
    refine ex_inl (M' := xM_S_checkIndex) (as := [xi 1, xi 5]) (rest := []) (D' := 5) rfl (Nat.le_of_ble_eq_true rfl) (by decide) rfl ⟨rfl, rfl, rfl⟩ ⟨Nat.le_of_ble_eq_true rfl, rfl, rfl⟩ (Nat.le_of_ble_eq_true rfl) rfl ?_
    refine ex_st 3 (pc' := 5) (ls' := [(0, xi 1), (1, xi 5)]) (st' := [xr 1030, xi 5, xi 1]) rfl ?_
    refine ex_inl (M' := xM_Pc_checkIndex) (as := [xi 1, xi 5, xr 1030]) (rest := []) (D' := 4) rfl (Nat.le_of_ble_eq_true rfl) (by decide) rfl ⟨rfl, rfl, rfl⟩ ⟨Nat.le_of_ble_eq_true rfl, rfl, rfl⟩ (Nat.le_of_ble_eq_true rfl) rfl ?_
    refine ex_st 1 (pc' := 1) (ls' := [(0, xi 1), (1, xi 5), (2, xr 1030)]) (st' := [xi 1]) rfl ?_
    refine ex_st 1 (pc' := 4) (ls' := [(0, xi 1), (1, xi 5), (2, xr 1030)]) (st' := []) rfl ?_
    refine ex_st 2 (pc' := 6) (ls' := [(0, xi 1), (1, xi 5), (2, xr 1030)]) (st' := [xi 5, xi 1]) rfl ?_
    refine ex_st 1 (pc' := 16) (ls' := [(0, xi 1), (1, xi 5), (2, xr 1030)]) (st' := []) rfl ?_
    refine ex_st 1 (pc' := 17) (ls' := [(0, xi 1), (1, xi 5), (2, xr 1030)]) (st' := [xi 1]) rfl ?_
    refine ex_reti rfl rfl ?_
    refine ex_st 1 (pc' := 9) (ls' := [(0, xi 1), (1, xi 5)]) (st' := []) rfl ?_
    refine ex_retv rfl rfl ?_
    refine ex_st 2 (pc' := 8) (ls' := [(0, xr 1020), (1, xi 1)]) (st' := [xi 1, xr 1020]) rfl ?_
    refine ex_cbald (v := 105) (j := 1) rfl (by decide) rfl rfl (by decide) (by decide) rfl ?_
    refine ex_st 1 (pc' := 12) (ls' := [(0, xr 1020), (1, xi 1)]) (st' := [xi 255, xi 105]) rfl ?_
    refine ex_iand rfl ?_
    rw [show z_and 105 255 = 105 by decide +kernel]
    refine ex_i2c rfl ?_
    rw [show z_i2c 105 = 105 by decide +kernel]
    refine ex_retc rfl (by omega) (by omega) rfl ?_
    refine ex_retc rfl (by omega) (by omega) rfl ?_
    by_cases k2 : pg n tx (a + 1) = 105
    · have a9 := pg_lt (n := n) (tx := tx) (a := a + 1) (by omega)
      refine ex_callQ (ct_R_skip_y (L := L) tJ1 aJ1 (by omega) (c := 105) (by decide) k2) (by decide) rfl ⟨rfl, rfl, rfl⟩ ⟨Nat.le_of_ble_eq_true rfl, rfl, rfl⟩ (Nat.le_of_ble_eq_true rfl) rfl (fun ra m2 hQ => ?_)
      obtain ⟨rfl, J2, rfl, aJ2, gJ2⟩ := hQ
      have fJ2 : ∀ k j, ¬ (k = 85 ∧ j = 2) → J2 k j = I k j := fun k j hk => by rw [gJ2 k j (by omega), fJ1 k j (by omega)]
      have tJ2 : TXc J2 n tx := hT.fr (fJ2 _ _ (by omega)) (fun j => fJ2 _ _ (by omega))
      refine ex_st 1 (pc' := 24) (ls' := [(2, xi 1), (0, xr 85), (1, xr 1010)]) (st' := []) rfl ?_
      refine ex_st 4 (pc' := 4) (ls' := [(2, xi 2), (0, xr 85), (1, xr 1010)]) (st' := [xr 1010, xi 2]) rfl ?_
      refine ex_inl (M' := xM_S_length) (as := [xr 1010]) (rest := [xi 2]) (D' := 7) rfl (Nat.le_of_ble_eq_true rfl) (by decide) rfl ⟨rfl, rfl, rfl⟩ ⟨Nat.le_of_ble_eq_true rfl, rfl, rfl⟩ (Nat.le_of_ble_eq_true rfl) rfl ?_
      refine ex_st 4 (pc' := 6) (ls' := [(0, xr 1010)]) (st' := [xr 1010, xi 5]) rfl ?_
      refine ex_inl (M' := xM_S_coder) (as := [xr 1010]) (rest := [xi 5]) (D' := 6) rfl (Nat.le_of_ble_eq_true rfl) (by decide) rfl ⟨rfl, rfl, rfl⟩ ⟨Nat.le_of_ble_eq_true rfl, rfl, rfl⟩ (Nat.le_of_ble_eq_true rfl) rfl ?_
      refine ex_st 1 (pc' := 3) (ls' := [(0, xr 1010)]) (st' := [xi 1]) rfl ?_
      refine ex_st 1 (pc' := 6) (ls' := [(0, xr 1010)]) (st' := []) rfl ?_
      refine ex_st 3 (pc' := 14) (ls' := [(0, xr 1010)]) (st' := [xi 0]) rfl ?_
      refine ex_ret6 rfl (by omega) (by omega) rfl ?_
      refine ex_ishr rfl ?_
      rw [show z_shr 5 0 = 5 by decide +kernel]
      refine ex_reti rfl rfl ?_
      refine ex_st 1 (pc' := 10) (ls' := [(2, xi 2), (0, xr 85), (1, xr 1010)]) (st' := []) rfl ?_
      refine ex_st 3 (pc' := 13) (ls' := [(2, xi 2), (0, xr 85), (1, xr 1010)]) (st' := [xi 2, xr 1010, xr 85]) rfl ?_
      refine ex_inl (M' := xM_S_charAt) (as := [xr 1010, xi 2]) (rest := [xr 85]) (D' := 7) rfl (Nat.le_of_ble_eq_true rfl) (by decide) rfl ⟨rfl, rfl, rfl⟩ ⟨Nat.le_of_ble_eq_true rfl, rfl, rfl⟩ (Nat.le_of_ble_eq_true rfl) rfl ?_
      refine ex_st 1 (pc' := 1) (ls' := [(0, xr 1010), (1, xi 2)]) (st' := [xr 1010]) rfl ?_
      refine ex_inl (M' := xM_S_isLatin1) (as := [xr 1010]) (rest := []) (D' := 6) rfl (Nat.le_of_ble_eq_true rfl) (by decide) rfl ⟨rfl, rfl, rfl⟩ ⟨Nat.le_of_ble_eq_true rfl, rfl, rfl⟩ (Nat.le_of_ble_eq_true rfl) rfl ?_
      refine ex_st 1 (pc' := 3) (ls' := [(0, xr 1010)]) (st' := [xi 1]) rfl ?_
      refine ex_st 1 (pc' := 6) (ls' := [(0, xr 1010)]) (st' := []) rfl ?_
      refine ex_st 2 (pc' := 10) (ls' := [(0, xr 1010)]) (st' := [xi 0]) rfl ?_
      refine ex_st 1 (pc' := 13) (ls' := [(0, xr 1010)]) (st' := []) rfl ?_
      refine ex_st 2 (pc' := 18) (ls' := [(0, xr 1010)]) (st' := [xi 1]) rfl ?_
      refine ex_retz rfl (Or.inr rfl) rfl ?_
      refine ex_st 1 (pc' := 7) (ls' := [(0, xr 1010), (1, xi 2)]) (st' := []) rfl ?_
      refine ex_st 3 (pc' := 12) (ls' := [(0, xr 1010), (1, xi 2)]) (st' := [xi 2, xr 1020]) rfl ?_
      refine ex_inl (M' := xM_L1_charAt) (as := [xr 1020, xi 2]) (rest := []) (D' := 6) rfl (Nat.le_of_ble_eq_true rfl) (by decide) rfl ⟨rfl, rfl, rfl⟩ ⟨Nat.le_of_ble_eq_true rfl, rfl, rfl⟩ (Nat.le_of_ble_eq_true rfl) rfl ?_
      refine ex_st 3 (pc' := 3) (ls' := [(0, xr 1020), (1, xi 2)]) (st' := [xi 5, xi 2]) rfl ?_
      refine ex_inl (M' := xM_S_checkIndex) (as := [xi 2, xi 5]) (rest := []) (D' := 5) rfl (Nat.le_of_ble_eq_true rfl) (by decide) rfl ⟨rfl, rfl, rfl⟩ ⟨Nat.le_of_ble_eq_true rfl, rfl, rfl⟩ (Nat.le_of_ble_eq_true rfl) rfl ?_
      refine ex_st 3 (pc' := 5) (ls' := [(0, xi 2), (1, xi 5)]) (st' := [xr 1030, xi 5, xi 2]) rfl ?_
      refine ex_inl (M' := xM_Pc_checkIndex) (as := [xi 2, xi 5, xr 1030]) (rest := []) (D' := 4) rfl (Nat.le_of_ble_eq_true rfl) (by decide) rfl ⟨rfl, rfl, rfl⟩ ⟨Nat.le_of_ble_eq_true rfl, rfl, rfl⟩ (Nat.le_of_ble_eq_true rfl) rfl ?_
      refine ex_st 1 (pc' := 1) (ls' := [(0, xi 2), (1, xi 5), (2, xr 1030)]) (st' := [xi 2]) rfl ?_
      refine ex_st 1 (pc' := 4) (ls' := [(0, xi 2), (1, xi 5), (2, xr 1030)]) (st' := []) rfl ?_
      refine ex_st 2 (pc' := 6) (ls' := [(0, xi 2), (1, xi 5), (2, xr 1030)]) (st' := [xi 5, xi 2]) rfl ?_
      refine ex_st 1 (pc' := 16) (ls' := [(0, xi 2), (1, xi 5), (2, xr 1030)]) (st' := []) rfl ?_
      refine ex_st 1 (pc' := 17) (ls' := [(0, xi 2), (1, xi 5), (2, xr 1030)]) (st' := [xi 2]) rfl ?_
      refine ex_reti rfl rfl ?_
      refine ex_st 1 (pc' := 9) (ls' := [(0, xi 2), (1, xi 5)]) (st' := []) rfl ?_
      refine ex_retv rfl rfl ?_
      refine ex_st 2 (pc' := 8) (ls' := [(0, xr 1020), (1, xi 2)]) (st' := [xi 2, xr 1020]) rfl ?_
      refine ex_cbald (v := 107) (j := 2) rfl (by decide) rfl rfl (by decide) (by decide) rfl ?_
      refine ex_st 1 (pc' := 12) (ls' := [(0, xr 1020), (1, xi 2)]) (st' := [xi 255, xi 107]) rfl ?_
      refine ex_iand rfl ?_
      rw [show z_and 107 255 = 107 by decide +kernel]
      refine ex_i2c rfl ?_
      rw [show z_i2c 107 = 107 by decide +kernel]
      refine ex_retc rfl (by omega) (by omega) rfl ?_
      refine ex_retc rfl (by omega) (by omega) rfl ?_
      by_cases k3 : pg n tx (a + 2) = 107
      · have a9 := pg_lt (n := n) (tx := tx) (a := a + 2) (by omega)
        refine ex_callQ (ct_R_skip_y (L := L) tJ2 aJ2 (by omega) (c := 107) (by decide) k3) (by decide) rfl ⟨rfl, rfl, rfl⟩ ⟨Nat.le_of_ble_eq_true rfl, rfl, rfl⟩ (Nat.le_of_ble_eq_true rfl) rfl (fun ra m2 hQ => ?_)
        obtain ⟨rfl, J3, rfl, aJ3, gJ3⟩ := hQ
        have fJ3 : ∀ k j, ¬ (k = 85 ∧ j = 2) → J3 k j = I k j := fun k j hk => by rw [gJ3 k j (by omega), fJ2 k j (by omega)]
        have tJ3 : TXc J3 n tx := hT.fr (fJ3 _ _ (by omega)) (fun j => fJ3 _ _ (by omega))
        refine ex_st 1 (pc' := 24) (ls' := [(2, xi 2), (0, xr 85), (1, xr 1010)]) (st' := []) rfl ?_
        refine ex_st 4 (pc' := 4) (ls' := [(2, xi 3), (0, xr 85), (1, xr 1010)]) (st' := [xr 1010, xi 3]) rfl ?_
        refine ex_inl (M' := xM_S_length) (as := [xr 1010]) (rest := [xi 3]) (D' := 7) rfl (Nat.le_of_ble_eq_true rfl) (by decide) rfl ⟨rfl, rfl, rfl⟩ ⟨Nat.le_of_ble_eq_true rfl, rfl, rfl⟩ (Nat.le_of_ble_eq_true rfl) rfl ?_
        refine ex_st 4 (pc' := 6) (ls' := [(0, xr 1010)]) (st' := [xr 1010, xi 5]) rfl ?_
        refine ex_inl (M' := xM_S_coder) (as := [xr 1010]) (rest := [xi 5]) (D' := 6) rfl (Nat.le_of_ble_eq_true rfl) (by decide) rfl ⟨rfl, rfl, rfl⟩ ⟨Nat.le_of_ble_eq_true rfl, rfl, rfl⟩ (Nat.le_of_ble_eq_true rfl) rfl ?_
        refine ex_st 1 (pc' := 3) (ls' := [(0, xr 1010)]) (st' := [xi 1]) rfl ?_
        refine ex_st 1 (pc' := 6) (ls' := [(0, xr 1010)]) (st' := []) rfl ?_
        refine ex_st 3 (pc' := 14) (ls' := [(0, xr 1010)]) (st' := [xi 0]) rfl ?_
        refine ex_ret6 rfl (by omega) (by omega) rfl ?_
        refine ex_ishr rfl ?_
        rw [show z_shr 5 0 = 5 by decide +kernel]
        refine ex_reti rfl rfl ?_
        refine ex_st 1 (pc' := 10) (ls' := [(2, xi 3), (0, xr 85), (1, xr 1010)]) (st' := []) rfl ?_
        refine ex_st 3 (pc' := 13) (ls' := [(2, xi 3), (0, xr 85), (1, xr 1010)]) (st' := [xi 3, xr 1010, xr 85]) rfl ?_
        refine ex_inl (M' := xM_S_charAt) (as := [xr 1010, xi 3]) (rest := [xr 85]) (D' := 7) rfl (Nat.le_of_ble_eq_true rfl) (by decide) rfl ⟨rfl, rfl, rfl⟩ ⟨Nat.le_of_ble_eq_true rfl, rfl, rfl⟩ (Nat.le_of_ble_eq_true rfl) rfl ?_
        refine ex_st 1 (pc' := 1) (ls' := [(0, xr 1010), (1, xi 3)]) (st' := [xr 1010]) rfl ?_
        refine ex_inl (M' := xM_S_isLatin1) (as := [xr 1010]) (rest := []) (D' := 6) rfl (Nat.le_of_ble_eq_true rfl) (by decide) rfl ⟨rfl, rfl, rfl⟩ ⟨Nat.le_of_ble_eq_true rfl, rfl, rfl⟩ (Nat.le_of_ble_eq_true rfl) rfl ?_
        refine ex_st 1 (pc' := 3) (ls' := [(0, xr 1010)]) (st' := [xi 1]) rfl ?_
        refine ex_st 1 (pc' := 6) (ls' := [(0, xr 1010)]) (st' := []) rfl ?_
        refine ex_st 2 (pc' := 10) (ls' := [(0, xr 1010)]) (st' := [xi 0]) rfl ?_
        refine ex_st 1 (pc' := 13) (ls' := [(0, xr 1010)]) (st' := []) rfl ?_
        refine ex_st 2 (pc' := 18) (ls' := [(0, xr 1010)]) (st' := [xi 1]) rfl ?_
        refine ex_retz rfl (Or.inr rfl) rfl ?_
        refine ex_st 1 (pc' := 7) (ls' := [(0, xr 1010), (1, xi 3)]) (st' := []) rfl ?_
        refine ex_st 3 (pc' := 12) (ls' := [(0, xr 1010), (1, xi 3)]) (st' := [xi 3, xr 1020]) rfl ?_
        refine ex_inl (M' := xM_L1_charAt) (as := [xr 1020, xi 3]) (rest := []) (D' := 6) rfl (Nat.le_of_ble_eq_true rfl) (by decide) rfl ⟨rfl, rfl, rfl⟩ ⟨Nat.le_of_ble_eq_true rfl, rfl, rfl⟩ (Nat.le_of_ble_eq_true rfl) rfl ?_
        refine ex_st 3 (pc' := 3) (ls' := [(0, xr 1020), (1, xi 3)]) (st' := [xi 5, xi 3]) rfl ?_
        refine ex_inl (M' := xM_S_checkIndex) (as := [xi 3, xi 5]) (rest := []) (D' := 5) rfl (Nat.le_of_ble_eq_true rfl) (by decide) rfl ⟨rfl, rfl, rfl⟩ ⟨Nat.le_of_ble_eq_true rfl, rfl, rfl⟩ (Nat.le_of_ble_eq_true rfl) rfl ?_
        refine ex_st 3 (pc' := 5) (ls' := [(0, xi 3), (1, xi 5)]) (st' := [xr 1030, xi 5, xi 3]) rfl ?_
        refine ex_inl (M' := xM_Pc_checkIndex) (as := [xi 3, xi 5, xr 1030]) (rest := []) (D' := 4) rfl (Nat.le_of_ble_eq_true rfl) (by decide) rfl ⟨rfl, rfl, rfl⟩ ⟨Nat.le_of_ble_eq_true rfl, rfl, rfl⟩ (Nat.le_of_ble_eq_true rfl) rfl ?_
        refine ex_st 1 (pc' := 1) (ls' := [(0, xi 3), (1, xi 5), (2, xr 1030)]) (st' := [xi 3]) rfl ?_
        refine ex_st 1 (pc' := 4) (ls' := [(0, xi 3), (1, xi 5), (2, xr 1030)]) (st' := []) rfl ?_
        refine ex_st 2 (pc' := 6) (ls' := [(0, xi 3), (1, xi 5), (2, xr 1030)]) (st' := [xi 5, xi 3]) rfl ?_
        refine ex_st 1 (pc' := 16) (ls' := [(0, xi 3), (1, xi 5), (2, xr 1030)]) (st' := []) rfl ?_
        refine ex_st 1 (pc' := 17) (ls' := [(0, xi 3), (1, xi 5), (2, xr 1030)]) (st' := [xi 3]) rfl ?_
        refine ex_reti rfl rfl ?_
        refine ex_st 1 (pc' := 9) (ls' := [(0, xi 3), (1, xi 5)]) (st' := []) rfl ?_
        refine ex_retv rfl rfl ?_
        refine ex_st 2 (pc' := 8) (ls' := [(0, xr 1020), (1, xi 3)]) (st' := [xi 3, xr 1020]) rfl ?_
        refine ex_cbald (v := 101) (j := 3) rfl (by decide) rfl rfl (by decide) (by decide) rfl ?_
        refine ex_st 1 (pc' := 12) (ls' := [(0, xr 1020), (1, xi 3)]) (st' := [xi 255, xi 101]) rfl ?_
        refine ex_iand rfl ?_
        rw [show z_and 101 255 = 101 by decide +kernel]
        refine ex_i2c rfl ?_
        rw [show z_i2c 101 = 101 by decide +kernel]
        refine ex_retc rfl (by omega) (by omega) rfl ?_
        refine ex_retc rfl (by omega) (by omega) rfl ?_
        by_cases k4 : pg n tx (a + 3) = 101
        · have a9 := pg_lt (n := n) (tx := tx) (a := a + 3) (by omega)
          refine ex_callQ (ct_R_skip_y (L := L) tJ3 aJ3 (by omega) (c := 101) (by decide) k4) (by decide) rfl ⟨rfl, rfl, rfl⟩ ⟨Nat.le_of_ble_eq_true rfl, rfl, rfl⟩ (Nat.le_of_ble_eq_true rfl) rfl (fun ra m2 hQ => ?_)
          obtain ⟨rfl, J4, rfl, aJ4, gJ4⟩ := hQ
          have fJ4 : ∀ k j, ¬ (k = 85 ∧ j = 2) → J4 k j = I k j := fun k j hk => by rw [gJ4 k j (by omega), fJ3 k j (by omega)]
          have tJ4 : TXc J4 n tx := hT.fr (fJ4 _ _ (by omega)) (fun j => fJ4 _ _ (by omega))
          refine ex_st 1 (pc' := 24) (ls' := [(2, xi 3), (0, xr 85), (1, xr 1010)]) (st' := []) rfl ?_
          refine ex_st 4 (pc' := 4) (ls' := [(2, xi 4), (0, xr 85), (1, xr 1010)]) (st' := [xr 1010, xi 4]) rfl ?_
          refine ex_inl (M' := xM_S_length) (as := [xr 1010]) (rest := [xi 4]) (D' := 7) rfl (Nat.le_of_ble_eq_true rfl) (by decide) rfl ⟨rfl, rfl, rfl⟩ ⟨Nat.le_of_ble_eq_true rfl, rfl, rfl⟩ (Nat.le_of_ble_eq_true rfl) rfl ?_
          refine ex_st 4 (pc' := 6) (ls' := [(0, xr 1010)]) (st' := [xr 1010, xi 5]) rfl ?_
          refine ex_inl (M' := xM_S_coder) (as := [xr 1010]) (rest := [xi 5]) (D' := 6) rfl (Nat.le_of_ble_eq_true rfl) (by decide) rfl ⟨rfl, rfl, rfl⟩ ⟨Nat.le_of_ble_eq_true rfl, rfl, rfl⟩ (Nat.le_of_ble_eq_true rfl) rfl ?_
          refine ex_st 1 (pc' := 3) (ls' := [(0, xr 1010)]) (st' := [xi 1]) rfl ?_
          refine ex_st 1 (pc' := 6) (ls' := [(0, xr 1010)]) (st' := []) rfl ?_
          refine ex_st 3 (pc' := 14) (ls' := [(0, xr 1010)]) (st' := [xi 0]) rfl ?_
          refine ex_ret6 rfl (by omega) (by omega) rfl ?_
          refine ex_ishr rfl ?_
          rw [show z_shr 5 0 = 5 by decide +kernel]
          refine ex_reti rfl rfl ?_
          refine ex_st 1 (pc' := 10) (ls' := [(2, xi 4), (0, xr 85), (1, xr 1010)]) (st' := []) rfl ?_
          refine ex_st 3 (pc' := 13) (ls' := [(2, xi 4), (0, xr 85), (1, xr 1010)]) (st' := [xi 4, xr 1010, xr 85]) rfl ?_
          refine ex_inl (M' := xM_S_charAt) (as := [xr 1010, xi 4]) (rest := [xr 85]) (D' := 7) rfl (Nat.le_of_ble_eq_true rfl) (by decide) rfl ⟨rfl, rfl, rfl⟩ ⟨Nat.le_of_ble_eq_true rfl, rfl, rfl⟩ (Nat.le_of_ble_eq_true rfl) rfl ?_
          refine ex_st 1 (pc' := 1) (ls' := [(0, xr 1010), (1, xi 4)]) (st' := [xr 1010]) rfl ?_
          refine ex_inl (M' := xM_S_isLatin1) (as := [xr 1010]) (rest := []) (D' := 6) rfl (Nat.le_of_ble_eq_true rfl) (by decide) rfl ⟨rfl, rfl, rfl⟩ ⟨Nat.le_of_ble_eq_true rfl, rfl, rfl⟩ (Nat.le_of_ble_eq_true rfl) rfl ?_
          refine ex_st 1 (pc' := 3) (ls' := [(0, xr 1010)]) (st' := [xi 1]) rfl ?_
          refine ex_st 1 (pc' := 6) (ls' := [(0, xr 1010)]) (st' := []) rfl ?_
          refine ex_st 2 (pc' := 10) (ls' := [(0, xr 1010)]) (st' := [xi 0]) rfl ?_
          refine ex_st 1 (pc' := 13) (ls' := [(0, xr 1010)]) (st' := []) rfl ?_
          refine ex_st 2 (pc' := 18) (ls' := [(0, xr 1010)]) (st' := [xi 1]) rfl ?_
          refine ex_retz rfl (Or.inr rfl) rfl ?_
          refine ex_st 1 (pc' := 7) (ls' := [(0, xr 1010), (1, xi 4)]) (st' := []) rfl ?_
          refine ex_st 3 (pc' := 12) (ls' := [(0, xr 1010), (1, xi 4)]) (st' := [xi 4, xr 1020]) rfl ?_
          refine ex_inl (M' := xM_L1_charAt) (as := [xr 1020, xi 4]) (rest := []) (D' := 6) rfl (Nat.le_of_ble_eq_true rfl) (by decide) rfl ⟨rfl, rfl, rfl⟩ ⟨Nat.le_of_ble_eq_true rfl, rfl, rfl⟩ (Nat.le_of_ble_eq_true rfl) rfl ?_
          refine ex_st 3 (pc' := 3) (ls' := [(0, xr 1020), (1, xi 4)]) (st' := [xi 5, xi 4]) rfl ?_
          refine ex_inl (M' := xM_S_checkIndex) (as := [xi 4, xi 5]) (rest := []) (D' := 5) rfl (Nat.le_of_ble_eq_true rfl) (by decide) rfl ⟨rfl, rfl, rfl⟩ ⟨Nat.le_of_ble_eq_true rfl, rfl, rfl⟩ (Nat.le_of_ble_eq_true rfl) rfl ?_
          refine ex_st 3 (pc' := 5) (ls' := [(0, xi 4), (1, xi 5)]) (st' := [xr 1030, xi 5, xi 4]) rfl ?_
          refine ex_inl (M' := xM_Pc_checkIndex) (as := [xi 4, xi 5, xr 1030]) (rest := []) (D' := 4) rfl (Nat.le_of_ble_eq_true rfl) (by decide) rfl ⟨rfl, rfl, rfl⟩ ⟨Nat.le_of_ble_eq_true rfl, rfl, rfl⟩ (Nat.le_of_ble_eq_true rfl) rfl ?_
          refine ex_st 1 (pc' := 1) (ls' := [(0, xi 4), (1, xi 5), (2, xr 1030)]) (st' := [xi 4]) rfl ?_
          refine ex_st 1 (pc' := 4) (ls' := [(0, xi 4), (1, xi 5), (2, xr 1030)]) (st' := []) rfl ?_
          refine ex_st 2 (pc' := 6) (ls' := [(0, xi 4), (1, xi 5), (2, xr 1030)]) (st' := [xi 5, xi 4]) rfl ?_
          refine ex_st 1 (pc' := 16) (ls' := [(0, xi 4), (1, xi 5), (2, xr 1030)]) (st' := []) rfl ?_
          refine ex_st 1 (pc' := 17) (ls' := [(0, xi 4), (1, xi 5), (2, xr 1030)]) (st' := [xi 4]) rfl ?_
          refine ex_reti rfl rfl ?_
          refine ex_st 1 (pc' := 9) (ls' := [(0, xi 4), (1, xi 5)]) (st' := []) rfl ?_
          refine ex_retv rfl rfl ?_
          refine ex_st 2 (pc' := 8) (ls' := [(0, xr 1020), (1, xi 4)]) (st' := [xi 4, xr 1020]) rfl ?_
          refine ex_cbald (v := 32) (j := 4) rfl (by decide) rfl rfl (by decide) (by decide) rfl ?_
          refine ex_st 1 (pc' := 12) (ls' := [(0, xr 1020), (1, xi 4)]) (st' := [xi 255, xi 32]) rfl ?_
          refine ex_iand rfl ?_
          rw [show z_and 32 255 = 32 by decide +kernel]
          refine ex_i2c rfl ?_
          rw [show z_i2c 32 = 32 by decide +kernel]
          refine ex_retc rfl (by omega) (by omega) rfl ?_
          refine ex_retc rfl (by omega) (by omega) rfl ?_
          by_cases k5 : pg n tx (a + 4) = 32
          · have a9 := pg_lt (n := n) (tx := tx) (a := a + 4) (by omega)
            refine ex_callQ (ct_R_skip_y (L := L) tJ4 aJ4 (by omega) (c := 32) (by decide) k5) (by decide) rfl ⟨rfl, rfl, rfl⟩ ⟨Nat.le_of_ble_eq_true rfl, rfl, rfl⟩ (Nat.le_of_ble_eq_true rfl) rfl (fun ra m2 hQ => ?_)
            obtain ⟨rfl, J5, rfl, aJ5, gJ5⟩ := hQ
            have fJ5 : ∀ k j, ¬ (k = 85 ∧ j = 2) → J5 k j = I k j := fun k j hk => by rw [gJ5 k j (by omega), fJ4 k j (by omega)]
            have tJ5 : TXc J5 n tx := hT.fr (fJ5 _ _ (by omega)) (fun j => fJ5 _ _ (by omega))
            refine ex_st 1 (pc' := 24) (ls' := [(2, xi 4), (0, xr 85), (1, xr 1010)]) (st' := []) rfl ?_
            refine ex_st 4 (pc' := 4) (ls' := [(2, xi 5), (0, xr 85), (1, xr 1010)]) (st' := [xr 1010, xi 5]) rfl ?_
            refine ex_inl (M' := xM_S_length) (as := [xr 1010]) (rest := [xi 5]) (D' := 7) rfl (Nat.le_of_ble_eq_true rfl) (by decide) rfl ⟨rfl, rfl, rfl⟩ ⟨Nat.le_of_ble_eq_true rfl, rfl, rfl⟩ (Nat.le_of_ble_eq_true rfl) rfl ?_
            refine ex_st 4 (pc' := 6) (ls' := [(0, xr 1010)]) (st' := [xr 1010, xi 5]) rfl ?_
            refine ex_inl (M' := xM_S_coder) (as := [xr 1010]) (rest := [xi 5]) (D' := 6) rfl (Nat.le_of_ble_eq_true rfl) (by decide) rfl ⟨rfl, rfl, rfl⟩ ⟨Nat.le_of_ble_eq_true rfl, rfl, rfl⟩ (Nat.le_of_ble_eq_true rfl) rfl ?_
            refine ex_st 1 (pc' := 3) (ls' := [(0, xr 1010)]) (st' := [xi 1]) rfl ?_
            refine ex_st 1 (pc' := 6) (ls' := [(0, xr 1010)]) (st' := []) rfl ?_
            refine ex_st 3 (pc' := 14) (ls' := [(0, xr 1010)]) (st' := [xi 0]) rfl ?_
            refine ex_ret6 rfl (by omega) (by omega) rfl ?_
            refine ex_ishr rfl ?_
            rw [show z_shr 5 0 = 5 by decide +kernel]
            refine ex_reti rfl rfl ?_
            refine ex_st 1 (pc' := 30) (ls' := [(2, xi 5), (0, xr 85), (1, xr 1010)]) (st' := []) rfl ?_
            refine ex_st 1 (pc' := 31) (ls' := [(2, xi 5), (0, xr 85), (1, xr 1010)]) (st' := [xi 1]) rfl ?_
            refine ex_retz rfl (Or.inr rfl) rfl ?_
            have e9 : p_w n tx [108, 105, 107, 101, 32] a = (a + 5, true) := by simp only [p_w]; rw [if_pos k1, if_pos k2, if_pos k3, if_pos k4, if_pos k5]
            rw [e9]
            exact ⟨rfl, J5, rfl, aJ5, fJ5, by show a + 5 ≤ n; omega⟩
          · refine ex_call (ct_R_skip_n (L := L) tJ4 aJ4 (by omega) (c := 32) (by decide) k5) (by decide) rfl ⟨rfl, rfl, rfl⟩ ⟨Nat.le_of_ble_eq_true rfl, rfl, rfl⟩ (Nat.le_of_ble_eq_true rfl) rfl ?_
            refine ex_st 1 (pc' := 22) (ls' := [(2, xi 4), (0, xr 85), (1, xr 1010)]) (st' := []) rfl ?_
            refine ex_st 1 (pc' := 23) (ls' := [(2, xi 4), (0, xr 85), (1, xr 1010)]) (st' := [xi 0]) rfl ?_
            refine ex_retz rfl (Or.inl rfl) rfl ?_
            have e9 : p_w n tx [108, 105, 107, 101, 32] a = (a + 4, false) := by simp only [p_w]; rw [if_pos k1, if_pos k2, if_pos k3, if_pos k4, if_neg k5]
            rw [e9]
            exact ⟨rfl, J4, rfl, aJ4, fJ4, by show a + 4 ≤ n; omega⟩
        · refine ex_call (ct_R_skip_n (L := L) tJ3 aJ3 (by omega) (c := 101) (by decide) k4) (by decide) rfl ⟨rfl, rfl, rfl⟩ ⟨Nat.le_of_ble_eq_true rfl, rfl, rfl⟩ (Nat.le_of_ble_eq_true rfl) rfl ?_
          refine ex_st 1 (pc' := 22) (ls' := [(2, xi 3), (0, xr 85), (1, xr 1010)]) (st' := []) rfl ?_
          refine ex_st 1 (pc' := 23) (ls' := [(2, xi 3), (0, xr 85), (1, xr 1010)]) (st' := [xi 0]) rfl ?_
          refine ex_retz rfl (Or.inl rfl) rfl ?_
          have e9 : p_w n tx [108, 105, 107, 101, 32] a = (a + 3, false) := by simp only [p_w]; rw [if_pos k1, if_pos k2, if_pos k3, if_neg k4]
          rw [e9]
          exact ⟨rfl, J3, rfl, aJ3, fJ3, by show a + 3 ≤ n; omega⟩
      · refine ex_call (ct_R_skip_n (L := L) tJ2 aJ2 (by omega) (c := 107) (by decide) k3) (by decide) rfl ⟨rfl, rfl, rfl⟩ ⟨Nat.le_of_ble_eq_true rfl, rfl, rfl⟩ (Nat.le_of_ble_eq_true rfl) rfl ?_
        refine ex_st 1 (pc' := 22) (ls' := [(2, xi 2), (0, xr 85), (1, xr 1010)]) (st' := []) rfl ?_
        refine ex_st 1 (pc' := 23) (ls' := [(2, xi 2), (0, xr 85), (1, xr 1010)]) (st' := [xi 0]) rfl ?_
        refine ex_retz rfl (Or.inl rfl) rfl ?_
        have e9 : p_w n tx [108, 105, 107, 101, 32] a = (a + 2, false) := by simp only [p_w]; rw [if_pos k1, if_pos k2, if_neg k3]
        rw [e9]
        exact ⟨rfl, J2, rfl, aJ2, fJ2, by show a + 2 ≤ n; omega⟩
    · refine ex_call (ct_R_skip_n (L := L) tJ1 aJ1 (by omega) (c := 105) (by decide) k2) (by decide) rfl ⟨rfl, rfl, rfl⟩ ⟨Nat.le_of_ble_eq_true rfl, rfl, rfl⟩ (Nat.le_of_ble_eq_true rfl) rfl ?_
      refine ex_st 1 (pc' := 22) (ls' := [(2, xi 1), (0, xr 85), (1, xr 1010)]) (st' := []) rfl ?_
      refine ex_st 1 (pc' := 23) (ls' := [(2, xi 1), (0, xr 85), (1, xr 1010)]) (st' := [xi 0]) rfl ?_
      refine ex_retz rfl (Or.inl rfl) rfl ?_
      have e9 : p_w n tx [108, 105, 107, 101, 32] a = (a + 1, false) := by simp only [p_w]; rw [if_pos k1, if_neg k2]
      rw [e9]
      exact ⟨rfl, J1, rfl, aJ1, fJ1, by show a + 1 ≤ n; omega⟩
  · refine ex_call (ct_R_skip_n (L := L) hT ha (by omega) (c := 108) (by decide) k1) (by decide) rfl ⟨rfl, rfl, rfl⟩ ⟨Nat.le_of_ble_eq_true rfl, rfl, rfl⟩ (Nat.le_of_ble_eq_true rfl) rfl ?_
    refine ex_st 1 (pc' := 22) (ls' := [(2, xi 0), (0, xr 85), (1, xr 1010)]) (st' := []) rfl ?_
    refine ex_st 1 (pc' := 23) (ls' := [(2, xi 0), (0, xr 85), (1, xr 1010)]) (st' := [xi 0]) rfl ?_
    refine ex_retz rfl (Or.inl rfl) rfl ?_
    have e9 : p_w n tx [108, 105, 107, 101, 32] a = (a, false) := by simp only [p_w]; rw [if_neg k1]
    rw [e9]
    exact ⟨rfl, I, rfl, ha, (fun _ _ _ => rfl), by show a ≤ n; omega⟩
theorem ct_R_skipWord1011 {sc : List Int} {I : Nat → Nat → Int} {L : Nat → Nat → Int64} {n : Nat} {tx : Nat → Nat} (hT : TXc I n tx) {a : Nat} (ha : I 85 2 = (a : Int)) (han : a ≤ n) : x_CQ sc 9 xN_R_skipWord [xr 85, xr 1011] (xSH, I, L) (fun r m' => r = some (xi (x_b ((p_w n tx [108, 111, 97, 116, 104, 101, 32] a).2 = true))) ∧ ∃ I', m' = (xSH, I', L) ∧ I' 85 2 = ((p_w n tx [108, 111, 97, 116, 104, 101, 32] a).1 : Int) ∧ (∀ k j, ¬ (k = 85 ∧ j = 2) → I' k j = I k j) ∧ (p_w n tx [108, 111, 97, 116, 104, 101, 32] a).1 ≤ n) := by
  have hn100 := hT.2.1
  refine x_CQ.of (M := xM_R_skipWord) rfl (Nat.le_of_ble_eq_true rfl) ?_
  refine ex_st 4 (pc' := 4) (ls' := [(2, xi 0), (0, xr 85), (1, xr 1011)]) (st' := [xr 1011, xi 0]) rfl ?_
  refine ex_inl (M' := xM_S_length) (as := [xr 1011]) (rest := [xi 0]) (D' := 7) rfl (Nat.le_of_ble_eq_true rfl) (by decide) rfl ⟨rfl, rfl, rfl⟩ ⟨Nat.le_of_ble_eq_true rfl, rfl, rfl⟩ (Nat.le_of_ble_eq_true rfl) rfl ?_
  refine ex_st 4 (pc' := 6) (ls' := [(0, xr 1011)]) (st' := [xr 1011, xi 7]) rfl ?_
  refine ex_inl (M' := xM_S_coder) (as := [xr 1011]) (rest := [xi 7]) (D' := 6) rfl (Nat.le_of_ble_eq_true rfl) (by decide) rfl ⟨rfl, rfl, rfl⟩ ⟨Nat.le_of_ble_eq_true rfl, rfl, rfl⟩ (Nat.le_of_ble_eq_true rfl) rfl ?_
  refine ex_st 1 (pc' := 3) (ls' := [(0, xr 1011)]) (st' := [xi 1]) rfl ?_
  refine ex_st 1 (pc' := 6) (ls' := [(0, xr 1011)]) (st' := []) rfl ?_
  refine ex_st 3 (pc' := 14) (ls' := [(0, xr 1011)]) (st' := [xi 0]) rfl ?_
  refine ex_ret6 rfl (by omega) (by omega) rfl ?_
  refine ex_ishr rfl ?_
  rw [show z_shr 7 0 = 7 by decide +kernel]
  refine ex_reti rfl rfl ?_
  refine ex_st 1 (pc' := 10) (ls' := [(2, xi 0), (0, xr 85), (1, xr 1011)]) (st' := []) rfl ?_
  refine ex_st 3 (pc' := 13) (ls' := [(2, xi 0), (0, xr 85), (1, xr 1011)]) (st' := [xi 0, xr 1011, xr 85]) rfl ?_
  refine ex_inl (M' := xM_S_charAt) (as := [xr 1011, xi 0]) (rest := [xr 85]) (D' := 7) rfl (Nat.le_of_ble_eq_true rfl) (by decide) rfl ⟨rfl, rfl, rfl⟩ ⟨Nat.le_of_ble_eq_true rfl, rfl, rfl⟩ (Nat.le_of_ble_eq_true rfl) rfl ?_
  refine ex_st 1 (pc' := 1) (ls' := [(0, xr 1011), (1, xi 0)]) (st' := [xr 1011]) rfl ?_
  refine ex_inl (M' := xM_S_isLatin1) (as := [xr 1011]) (rest := []) (D' := 6) rfl (Nat.le_of_ble_eq_true rfl) (by decide) rfl ⟨rfl, rfl, rfl⟩ ⟨Nat.le_of_ble_eq_true rfl, rfl, rfl⟩ (Nat.le_of_ble_eq_true rfl) rfl ?_
  refine ex_st 1 (pc' := 3) (ls' := [(0, xr 1011)]) (st' := [xi 1]) rfl ?_
  refine ex_st 1 (pc' := 6) (ls' := [(0, xr 1011)]) (st' := []) rfl ?_
  refine ex_st 2 (pc' := 10) (ls' := [(0, xr 1011)]) (st' := [xi 0]) rfl ?_
  refine ex_st 1 (pc' := 13) (ls' := [(0, xr 1011)]) (st' := []) rfl ?_
  refine ex_st 2 (pc' := 18) (ls' := [(0, xr 1011)]) (st' := [xi 1]) rfl ?_
  refine ex_retz rfl (Or.inr rfl) rfl ?_
  refine ex_st 1 (pc' := 7) (ls' := [(0, xr 1011), (1, xi 0)]) (st' := []) rfl ?_
  refine ex_st 3 (pc' := 12) (ls' := [(0, xr 1011), (1, xi 0)]) (st' := [xi 0, xr 1021]) rfl ?_
  refine ex_inl (M' := xM_L1_charAt) (as := [xr 1021, xi 0]) (rest := []) (D' := 6) rfl (Nat.le_of_ble_eq_true rfl) (by decide) rfl ⟨rfl, rfl, rfl⟩ ⟨Nat.le_of_ble_eq_true rfl, rfl, rfl⟩ (Nat.le_of_ble_eq_true rfl) rfl ?_
  refine ex_st 3 (pc' := 3) (ls' := [(0, xr 1021), (1, xi 0)]) (st' := [xi 7, xi 0]) rfl ?_
  refine ex_inl (M' := xM_S_checkIndex) (as := [xi 0, xi 7]) (rest := []) (D' := 5) rfl (Nat.le_of_ble_eq_true rfl) (by decide) rfl ⟨rfl, rfl, rfl⟩ ⟨Nat.le_of_ble_eq_true rfl, rfl, rfl⟩ (Nat.le_of_ble_eq_true rfl) rfl ?_
  refine ex_st 3 (pc' := 5) (ls' := [(0, xi 0), (1, xi 7)]) (st' := [xr 1030, xi 7, xi 0]) rfl ?_
  refine ex_inl (M' := xM_Pc_checkIndex) (as := [xi 0, xi 7, xr 1030]) (rest := []) (D' := 4) rfl (Nat.le_of_ble_eq_true rfl) (by decide) rfl ⟨rfl, rfl, rfl⟩ ⟨Nat.le_of_ble_eq_true rfl, rfl, rfl⟩ (Nat.le_of_ble_eq_true rfl) rfl ?_
  refine ex_st 1 (pc' := 1) (ls' := [(0, xi 0), (1, xi 7), (2, xr 1030)]) (st' := [xi 0]) rfl ?_
  refine ex_st 1 (pc' := 4) (ls' := [(0, xi 0), (1, xi 7), (2, xr 1030)]) (st' := []) rfl ?_
  refine ex_st 2 (pc' := 6) (ls' := [(0, xi 0), (1, xi 7), (2, xr 1030)]) (st' := [xi 7, xi 0]) rfl ?_
  refine ex_st 1 (pc' := 16) (ls' := [(0, xi 0), (1, xi 7), (2, xr 1030)]) (st' := []) rfl ?_
  refine ex_st 1 (pc' := 17) (ls' := [(0, xi 0), (1, xi 7), (2, xr 1030)]) (st' := [xi 0]) rfl ?_
  refine ex_reti rfl rfl ?_
  refine ex_st 1 (pc' := 9) (ls' := [(0, xi 0), (1, xi 7)]) (st' := []) rfl ?_
  refine ex_retv rfl rfl ?_
  refine ex_st 2 (pc' := 8) (ls' := [(0, xr 1021), (1, xi 0)]) (st' := [xi 0, xr 1021]) rfl ?_
  refine ex_cbald (v := 108) (j := 0) rfl (by decide) rfl rfl (by decide) (by decide) rfl ?_
  refine ex_st 1 (pc' := 12) (ls' := [(0, xr 1021), (1, xi 0)]) (st' := [xi 255, xi 108]) rfl ?_
  refine ex_iand rfl ?_
  rw [show z_and 108 255 = 108 by decide +kernel]
  refine ex_i2c rfl ?_
  rw [show z_i2c 108 = 108 by decide +kernel]
  refine ex_retc rfl (by omega) (by omega) rfl ?_
  refine ex_retc rfl (by omega) (by omega) rfl ?_
  by_cases k1 : pg n tx (a) = 108
  · have a9 := pg_lt (n := n) (tx := tx) (a := a) (by omega)
    refine ex_callQ (ct_R_skip_y (L := L) hT ha (by omega) (c := 108) (by decide) k1) (by decide) rfl ⟨rfl, rfl, rfl⟩ ⟨Nat.le_of_ble_eq_true rfl, rfl, rfl⟩ (Nat.le_of_ble_eq_true rfl) rfl (fun ra m2 hQ => ?_)
    obtain ⟨rfl, J1, rfl, aJ1, gJ1⟩ := hQ
    have fJ1 : ∀ k j, ¬ (k = 85 ∧ j = 2) → J1 k j = I k j := fun k j hk => by rw [gJ1 k j (by omega)]
    have tJ1 : TXc J1 n tx := hT.fr (fJ1 _ _ (by omega)) (fun j => fJ1 _ _ (by omega))
    refine ex_st 1 (pc' := 24) (ls' := [(2, xi 0), (0, xr 85), (1, xr 1011)]) (st' := []) rfl ?_
    refine ex_st 4 (pc' := 4) (ls' := [(2, xi 1), (0, xr 85), (1, xr 1011)]) (st' := [xr 1011, xi 1]) rfl ?_
    refine ex_inl (M' := xM_S_length) (as := [xr 1011]) (rest := [xi 1]) (D' := 7) rfl (Nat.le_of_ble_eq_true rfl) (by decide) rfl ⟨rfl, rfl, rfl⟩ ⟨Nat.le_of_ble_eq_true rfl, rfl, rfl⟩ (Nat.le_of_ble_eq_true rfl) rfl ?_
    refine ex_st 4 (pc' := 6) (ls' := [(0, xr 1011)]) (st' := [xr 1011, xi 7]) rfl ?_
    refine ex_inl (M' := xM_S_coder) (as := [xr 1011]) (rest := [xi 7]) (D' := 6) rfl (Nat.le_of_ble_eq_true rfl) (by decide) rfl ⟨rfl, rfl, rfl⟩ ⟨Nat.le_of_ble_eq_true rfl, rfl, rfl⟩ (Nat.le_of_ble_eq_true rfl) rfl ?_
    refine ex_st 1 (pc' := 3) (ls' := [(0, xr 1011)]) (st' := [xi 1]) rfl ?_
    refine ex_st 1 (pc' := 6) (ls' := [(0, xr 1011)]) (st' := []) rfl ?_
    refine ex_st 3 (pc' := 14) (ls' := [(0, xr 1011)]) (st' := [xi 0]) rfl ?_
    refine ex_ret6 rfl (by omega) (by omega) rfl ?_
    refine ex_ishr rfl ?_
    rw [show z_shr 7 0 = 7 by decide +kernel]
    refine ex_reti rfl rfl ?_
    refine ex_st 1 (pc' := 10) (ls' := [(2, xi 1), (0, xr 85), (1, xr 1011)]) (st' := []) rfl ?_
    refine ex_st 3 (pc' := 13) (ls' := [(2, xi 1), (0, xr 85), (1, xr 1011)]) (st' := [xi 1, xr 1011, xr 85]) rfl ?_
    refine ex_inl (M' := xM_S_charAt) (as := [xr 1011, xi 1]) (rest := [xr 85]) (D' := 7) rfl (Nat.le_of_ble_eq_true rfl) (by decide) rfl ⟨rfl, rfl, rfl⟩ ⟨Nat.le_of_ble_eq_true rfl, rfl, rfl⟩ (Nat.le_of_ble_eq_true rfl) rfl ?_
    refine ex_st 1 (pc' := 1) (ls' := [(0, xr 1011), (1, xi 1)]) (st' := [xr 1011]) rfl ?_
    refine ex_inl (M' := xM_S_isLatin1) (as := [xr 1011]) (rest := []) (D' := 6) rfl (Nat.le_of_ble_eq_true rfl) (by decide) rfl ⟨rfl, rfl, rfl⟩ ⟨Nat.le_of_ble_eq_true rfl, rfl, rfl⟩ (Nat.le_of_ble_eq_true rfl) rfl ?_
    refine ex_st 1 (pc' := 3) (ls' := [(0, xr 1011)]) (st' := [xi 1]) rfl ?_
    refine ex_st 1 (pc' := 6) (ls' := [(0, xr 1011)]) (st' := []) rfl ?_
    refine ex_st 2 (pc' := 10) (ls' := [(0, xr 1011)]) (st' := [xi 0]) rfl ?_
    refine ex_st 1 (pc' := 13) (ls' := [(0, xr 1011)]) (st' := []) rfl ?_
    refine ex_st 2 (pc' := 18) (ls' := [(0, xr 1011)]) (st' := [xi 1]) rfl ?_
    refine ex_retz rfl (Or.inr rfl) rfl ?_
    refine ex_st 1 (pc' := 7) (ls' := [(0, xr 1011), (1, xi 1)]) (st' := []) rfl ?_
    refine ex_st 3 (pc' := 12) (ls' := [(0, xr 1011), (1, xi 1)]) (st' := [xi 1, xr 1021]) rfl ?_
    refine ex_inl (M' := xM_L1_charAt) (as := [xr 1021, xi 1]) (rest := []) (D' := 6) rfl (Nat.le_of_ble_eq_true rfl) (by decide) rfl ⟨rfl, rfl, rfl⟩ ⟨Nat.le_of_ble_eq_true rfl, rfl, rfl⟩ (Nat.le_of_ble_eq_true rfl) rfl ?_
    refine ex_st 3 (pc' := 3) (ls' := [(0, xr 1021), (1, xi 1)]) (st' := [xi 7, xi 1]) rfl ?_
    refine ex_inl (M' := xM_S_checkIndex) (as := [xi 1, xi 7]) (rest := []) (D' := 5) rfl (Nat.le_of_ble_eq_true rfl) (by decide) rfl ⟨rfl, rfl, rfl⟩ ⟨Nat.le_of_ble_eq_true rfl, rfl, rfl⟩ (Nat.le_of_ble_eq_true rfl) rfl ?_
    refine ex_st 3 (pc' := 5) (ls' := [(0, xi 1), (1, xi 7)]) (st' := [xr 1030, xi 7, xi 1]) rfl ?_
    refine ex_inl (M' := xM_Pc_checkIndex) (as := [xi 1, xi 7, xr 1030]) (rest := []) (D' := 4) rfl (Nat.le_of_ble_eq_true rfl) (by decide) rfl ⟨rfl, rfl, rfl⟩ ⟨Nat.le_of_ble_eq_true rfl, rfl, rfl⟩ (Nat.le_of_ble_eq_true rfl) rfl ?_
    refine ex_st 1 (pc' := 1) (ls' := [(0, xi 1), (1, xi 7), (2, xr 1030)]) (st' := [xi 1]) rfl ?_
    refine ex_st 1 (pc' := 4) (ls' := [(0, xi 1), (1, xi 7), (2, xr 1030)]) (st' := []) rfl ?_
    refine ex_st 2 (pc' := 6) (ls' := [(0, xi 1), (1, xi 7), (2, xr 1030)]) (st' := [xi 7, xi 1]) rfl ?_
    refine ex_st 1 (pc' := 16) (ls' := [(0, xi 1), (1, xi 7), (2, xr 1030)]) (st' := []) rfl ?_
    refine ex_st 1 (pc' := 17) (ls' := [(0, xi 1), (1, xi 7), (2, xr 1030)]) (st' := [xi 1]) rfl ?_
    refine ex_reti rfl rfl ?_
    refine ex_st 1 (pc' := 9) (ls' := [(0, xi 1), (1, xi 7)]) (st' := []) rfl ?_
    refine ex_retv rfl rfl ?_
    refine ex_st 2 (pc' := 8) (ls' := [(0, xr 1021), (1, xi 1)]) (st' := [xi 1, xr 1021]) rfl ?_
    refine ex_cbald (v := 111) (j := 1) rfl (by decide) rfl rfl (by decide) (by decide) rfl ?_
    refine ex_st 1 (pc' := 12) (ls' := [(0, xr 1021), (1, xi 1)]) (st' := [xi 255, xi 111]) rfl ?_
    refine ex_iand rfl ?_
    rw [show z_and 111 255 = 111 by decide +kernel]
    refine ex_i2c rfl ?_
    rw [show z_i2c 111 = 111 by decide +kernel]
    refine ex_retc rfl (by omega) (by omega) rfl ?_
    refine ex_retc rfl (by omega) (by omega) rfl ?_
    by_cases k2 : pg n tx (a + 1) = 111
    · have a9 := pg_lt (n := n) (tx := tx) (a := a + 1) (by omega)
      refine ex_callQ (ct_R_skip_y (L := L) tJ1 aJ1 (by omega) (c := 111) (by decide) k2) (by decide) rfl ⟨rfl, rfl, rfl⟩ ⟨Nat.le_of_ble_eq_true rfl, rfl, rfl⟩ (Nat.le_of_ble_eq_true rfl) rfl (fun ra m2 hQ => ?_)
      obtain ⟨rfl, J2, rfl, aJ2, gJ2⟩ := hQ
      have fJ2 : ∀ k j, ¬ (k = 85 ∧ j = 2) → J2 k j = I k j := fun k j hk => by rw [gJ2 k j (by omega), fJ1 k j (by omega)]
      have tJ2 : TXc J2 n tx := hT.fr (fJ2 _ _ (by omega)) (fun j => fJ2 _ _ (by omega))
      refine ex_st 1 (pc' := 24) (ls' := [(2, xi 1), (0, xr 85), (1, xr 1011)]) (st' := []) rfl ?_
      refine ex_st 4 (pc' := 4) (ls' := [(2, xi 2), (0, xr 85), (1, xr 1011)]) (st' := [xr 1011, xi 2]) rfl ?_
      refine ex_inl (M' := xM_S_length) (as := [xr 1011]) (rest := [xi 2]) (D' := 7) rfl (Nat.le_of_ble_eq_true rfl) (by decide) rfl ⟨rfl, rfl, rfl⟩ ⟨Nat.le_of_ble_eq_true rfl, rfl, rfl⟩ (Nat.le_of_ble_eq_true rfl) rfl ?_
      refine ex_st 4 (pc' := 6) (ls' := [(0, xr 1011)]) (st' := [xr 1011, xi 7]) rfl ?_
      refine ex_inl (M' := xM_S_coder) (as := [xr 1011]) (rest := [xi 7]) (D' := 6) rfl (Nat.le_of_ble_eq_true rfl) (by decide) rfl ⟨rfl, rfl, rfl⟩ ⟨Nat.le_of_ble_eq_true rfl, rfl, rfl⟩ (Nat.le_of_ble_eq_true rfl) rfl ?_
      refine ex_st 1 (pc' := 3) (ls' := [(0, xr 1011)]) (st' := [xi 1]) rfl ?_
      refine ex_st 1 (pc' := 6) (ls' := [(0, xr 1011)]) (st' := []) rfl ?_
      refine ex_st 3 (pc' := 14) (ls' := [(0, xr 1011)]) (st' := [xi 0]) rfl ?_
      refine ex_ret6 rfl (by omega) (by omega) rfl ?_
      refine ex_ishr rfl ?_
      rw [show z_shr 7 0 = 7 by decide +kernel]
      refine ex_reti rfl rfl ?_
      refine ex_st 1 (pc' := 10) (ls' := [(2, xi 2), (0, xr 85), (1, xr 1011)]) (st' := []) rfl ?_
      refine ex_st 3 (pc' := 13) (ls' := [(2, xi 2), (0, xr 85), (1, xr 1011)]) (st' := [xi 2, xr 1011, xr 85]) rfl ?_
      refine ex_inl (M' := xM_S_charAt) (as := [xr 1011, xi 2]) (rest := [xr 85]) (D' := 7) rfl (Nat.le_of_ble_eq_true rfl) (by decide) rfl ⟨rfl, rfl, rfl⟩ ⟨Nat.le_of_ble_eq_true rfl, rfl, rfl⟩ (Nat.le_of_ble_eq_true rfl) rfl ?_
      refine ex_st 1 (pc' := 1) (ls' := [(0, xr 1011), (1, xi 2)]) (st' := [xr 1011]) rfl ?_
      refine ex_inl (M' := xM_S_isLatin1) (as := [xr 1011]) (rest := []) (D' := 6) rfl (Nat.le_of_ble_eq_true rfl) (by decide) rfl ⟨rfl, rfl, rfl⟩ ⟨Nat.le_of_ble_eq_true rfl, rfl, rfl⟩ (Nat.le_of_ble_eq_true rfl) rfl ?_
      refine ex_st 1 (pc' := 3) (ls' := [(0, xr 1011)]) (st' := [xi 1]) rfl ?_
      refine ex_st 1 (pc' := 6) (ls' := [(0, xr 1011)]) (st' := []) rfl ?_
      refine ex_st 2 (pc' := 10) (ls' := [(0, xr 1011)]) (st' := [xi 0]) rfl ?_
      refine ex_st 1 (pc' := 13) (ls' := [(0, xr 1011)]) (st' := []) rfl ?_
      refine ex_st 2 (pc' := 18) (ls' := [(0, xr 1011)]) (st' := [xi 1]) rfl ?_
      refine ex_retz rfl (Or.inr rfl) rfl ?_
      refine ex_st 1 (pc' := 7) (ls' := [(0, xr 1011), (1, xi 2)]) (st' := []) rfl ?_
      refine ex_st 3 (pc' := 12) (ls' := [(0, xr 1011), (1, xi 2)]) (st' := [xi 2, xr 1021]) rfl ?_
      refine ex_inl (M' := xM_L1_charAt) (as := [xr 1021, xi 2]) (rest := []) (D' := 6) rfl (Nat.le_of_ble_eq_true rfl) (by decide) rfl ⟨rfl, rfl, rfl⟩ ⟨Nat.le_of_ble_eq_true rfl, rfl, rfl⟩ (Nat.le_of_ble_eq_true rfl) rfl ?_
      refine ex_st 3 (pc' := 3) (ls' := [(0, xr 1021), (1, xi 2)]) (st' := [xi 7, xi 2]) rfl ?_
      refine ex_inl (M' := xM_S_checkIndex) (as := [xi 2, xi 7]) (rest := []) (D' := 5) rfl (Nat.le_of_ble_eq_true rfl) (by decide) rfl ⟨rfl, rfl, rfl⟩ ⟨Nat.le_of_ble_eq_true rfl, rfl, rfl⟩ (Nat.le_of_ble_eq_true rfl) rfl ?_
      refine ex_st 3 (pc' := 5) (ls' := [(0, xi 2), (1, xi 7)]) (st' := [xr 1030, xi 7, xi 2]) rfl ?_
      refine ex_inl (M' := xM_Pc_checkIndex) (as := [xi 2, xi 7, xr 1030]) (rest := []) (D' := 4) rfl (Nat.le_of_ble_eq_true rfl) (by decide) rfl ⟨rfl, rfl, rfl⟩ ⟨Nat.le_of_ble_eq_true rfl, rfl, rfl⟩ (Nat.le_of_ble_eq_true rfl) rfl ?_
      refine ex_st 1 (pc' := 1) (ls' := [(0, xi 2), (1, xi 7), (2, xr 1030)]) (st' := [xi 2]) rfl ?_
      refine ex_st 1 (pc' := 4) (ls' := [(0, xi 2), (1, xi 7), (2, xr 1030)]) (st' := []) rfl ?_
      refine ex_st 2 (pc' := 6) (ls' := [(0, xi 2), (1, xi 7), (2, xr 1030)]) (st' := [xi 7, xi 2]) rfl ?_
      refine ex_st 1 (pc' := 16) (ls' := [(0, xi 2), (1, xi 7), (2, xr 1030)]) (st' := []) rfl ?_
      refine ex_st 1 (pc' := 17) (ls' := [(0, xi 2), (1, xi 7), (2, xr 1030)]) (st' := [xi 2]) rfl ?_
      refine ex_reti rfl rfl ?_
      refine ex_st 1 (pc' := 9) (ls' := [(0, xi 2), (1, xi 7)]) (st' := []) rfl ?_
      refine ex_retv rfl rfl ?_
      refine ex_st 2 (pc' := 8) (ls' := [(0, xr 1021), (1, xi 2)]) (st' := [xi 2, xr 1021]) rfl ?_
      refine ex_cbald (v := 97) (j := 2) rfl (by decide) rfl rfl (by decide) (by decide) rfl ?_
      refine ex_st 1 (pc' := 12) (ls' := [(0, xr 1021), (1, xi 2)]) (st' := [xi 255, xi 97]) rfl ?_
      refine ex_iand rfl ?_
      rw [show z_and 97 255 = 97 by decide +kernel]
      refine ex_i2c rfl ?_
      rw [show z_i2c 97 = 97 by decide +kernel]
      refine ex_retc rfl (by omega) (by omega) rfl ?_
      refine ex_retc rfl (by omega) (by omega) rfl ?_
      by_cases k3 : pg n tx (a + 2) = 97
      · have a9 := pg_lt (n := n) (tx := tx) (a := a + 2) (by omega)
        refine ex_callQ (ct_R_skip_y (L := L) tJ2 aJ2 (by omega) (c := 97) (by decide) k3) (by decide) rfl ⟨rfl, rfl, rfl⟩ ⟨Nat.le_of_ble_eq_true rfl, rfl, rfl⟩ (Nat.le_of_ble_eq_true rfl) rfl (fun ra m2 hQ => ?_)
        obtain ⟨rfl, J3, rfl, aJ3, gJ3⟩ := hQ
        have fJ3 : ∀ k j, ¬ (k = 85 ∧ j = 2) → J3 k j = I k j := fun k j hk => by rw [gJ3 k j (by omega), fJ2 k j (by omega)]
        have tJ3 : TXc J3 n tx := hT.fr (fJ3 _ _ (by omega)) (fun j => fJ3 _ _ (by omega))
        refine ex_st 1 (pc' := 24) (ls' := [(2, xi 2), (0, xr 85), (1, xr 1011)]) (st' := []) rfl ?_
        refine ex_st 4 (pc' := 4) (ls' := [(2, xi 3), (0, xr 85), (1, xr 1011)]) (st' := [xr 1011, xi 3]) rfl ?_
        refine ex_inl (M' := xM_S_length) (as := [xr 1011]) (rest := [xi 3]) (D' := 7) rfl (Nat.le_of_ble_eq_true rfl) (by decide) rfl ⟨rfl, rfl, rfl⟩ ⟨Nat.le_of_ble_eq_true rfl, rfl, rfl⟩ (Nat.le_of_ble_eq_true rfl) rfl ?_
        refine ex_st 4 (pc' := 6) (ls' := [(0, xr 1011)]) (st' := [xr 1011, xi 7]) rfl ?_
        refine ex_inl (M' := xM_S_coder) (as := [xr 1011]) (rest := [xi 7]) (D' := 6) rfl (Nat.le_of_ble_eq_true rfl) (by decide) rfl ⟨rfl, rfl, rfl⟩ ⟨Nat.le_of_ble_eq_true rfl, rfl, rfl⟩ (Nat.le_of_ble_eq_true rfl) rfl ?_
        refine ex_st 1 (pc' := 3) (ls' := [(0, xr 1011)]) (st' := [xi 1]) rfl ?_
        refine ex_st 1 (pc' := 6) (ls' := [(0, xr 1011)]) (st' := []) rfl ?_
        refine ex_st 3 (pc' := 14) (ls' := [(0, xr 1011)]) (st' := [xi 0]) rfl ?_
        refine ex_ret6 rfl (by omega) (by omega) rfl ?_
        refine ex_ishr rfl ?_
        rw [show z_shr 7 0 = 7 by decide +kernel]
        refine ex_reti rfl rfl ?_
        refine ex_st 1 (pc' := 10) (ls' := [(2, xi 3), (0, xr 85), (1, xr 1011)]) (st' := []) rfl ?_
        refine ex_st 3 (pc' := 13) (ls' := [(2, xi 3), (0, xr 85), (1, xr 1011)]) (st' := [xi 3, xr 1011, xr 85]) rfl ?_
        refine ex_inl (M' := xM_S_charAt) (as := [xr 1011, xi 3]) (rest := [xr 85]) (D' := 7) rfl (Nat.le_of_ble_eq_true rfl) (by decide) rfl ⟨rfl, rfl, rfl⟩ ⟨Nat.le_of_ble_eq_true rfl, rfl, rfl⟩ (Nat.le_of_ble_eq_true rfl) rfl ?_
        refine ex_st 1 (pc' := 1) (ls' := [(0, xr 1011), (1, xi 3)]) (st' := [xr 1011]) rfl ?_
        refine ex_inl (M' := xM_S_isLatin1) (as := [xr 1011]) (rest := []) (D' := 6) rfl (Nat.le_of_ble_eq_true rfl) (by decide) rfl ⟨rfl, rfl, rfl⟩ ⟨Nat.le_of_ble_eq_true rfl, rfl, rfl⟩ (Nat.le_of_ble_eq_true rfl) rfl ?_
        refine ex_st 1 (pc' := 3) (ls' := [(0, xr 1011)]) (st' := [xi 1]) rfl ?_
        refine ex_st 1 (pc' := 6) (ls' := [(0, xr 1011)]) (st' := []) rfl ?_
        refine ex_st 2 (pc' := 10) (ls' := [(0, xr 1011)]) (st' := [xi 0]) rfl ?_
        refine ex_st 1 (pc' := 13) (ls' := [(0, xr 1011)]) (st' := []) rfl ?_
        refine ex_st 2 (pc' := 18) (ls' := [(0, xr 1011)]) (st' := [xi 1]) rfl ?_
        refine ex_retz rfl (Or.inr rfl) rfl ?_
        refine ex_st 1 (pc' := 7) (ls' := [(0, xr 1011), (1, xi 3)]) (st' := []) rfl ?_
        refine ex_st 3 (pc' := 12) (ls' := [(0, xr 1011), (1, xi 3)]) (st' := [xi 3, xr 1021]) rfl ?_
        refine ex_inl (M' := xM_L1_charAt) (as := [xr 1021, xi 3]) (rest := []) (D' := 6) rfl (Nat.le_of_ble_eq_true rfl) (by decide) rfl ⟨rfl, rfl, rfl⟩ ⟨Nat.le_of_ble_eq_true rfl, rfl, rfl⟩ (Nat.le_of_ble_eq_true rfl) rfl ?_
        refine ex_st 3 (pc' := 3) (ls' := [(0, xr 1021), (1, xi 3)]) (st' := [xi 7, xi 3]) rfl ?_
        refine ex_inl (M' := xM_S_checkIndex) (as := [xi 3, xi 7]) (rest := []) (D' := 5) rfl (Nat.le_of_ble_eq_true rfl) (by decide) rfl ⟨rfl, rfl, rfl⟩ ⟨Nat.le_of_ble_eq_true rfl, rfl, rfl⟩ (Nat.le_of_ble_eq_true rfl) rfl ?_
        refine ex_st 3 (pc' := 5) (ls' := [(0, xi 3), (1, xi 7)]) (st' := [xr 1030, xi 7, xi 3]) rfl ?_
        refine ex_inl (M' := xM_Pc_checkIndex) (as := [xi 3, xi 7, xr 1030]) (rest := []) (D' := 4) rfl (Nat.le_of_ble_eq_true rfl) (by decide) rfl ⟨rfl, rfl, rfl⟩ ⟨Nat.le_of_ble_eq_true rfl, rfl, rfl⟩ (Nat.le_of_ble_eq_true rfl) rfl ?_
        refine ex_st 1 (pc' := 1) (ls' := [(0, xi 3), (1, xi 7), (2, xr 1030)]) (st' := [xi 3]) rfl ?_
        refine ex_st 1 (pc' := 4) (ls' := [(0, xi 3), (1, xi 7), (2, xr 1030)]) (st' := []) rfl ?_
        refine ex_st 2 (pc' := 6) (ls' := [(0, xi 3), (1, xi 7), (2, xr 1030)]) (st' := [xi 7, xi 3]) rfl ?_
        refine ex_st 1 (pc' := 16) (ls' := [(0, xi 3), (1, xi 7), (2, xr 1030)]) (st' := []) rfl ?_
        refine ex_st 1 (pc' := 17) (ls' := [(0, xi 3), (1, xi 7), (2, xr 1030)]) (st' := [xi 3]) rfl ?_
        refine ex_reti rfl rfl ?_
        refine ex_st 1 (pc' := 9) (ls' := [(0, xi 3), (1, xi 7)]) (st' := []) rfl ?_
        refine ex_retv rfl rfl ?_
        refine ex_st 2 (pc' := 8) (ls' := [(0, xr 1021), (1, xi 3)]) (st' := [xi 3, xr 1021]) rfl ?_
        refine ex_cbald (v := 116) (j := 3) rfl (by decide) rfl rfl (by decide) (by decide) rfl ?_
        refine ex_st 1 (pc' := 12) (ls' := [(0, xr 1021), (1, xi 3)]) (st' := [xi 255, xi 116]) rfl ?_
        refine ex_iand rfl ?_
        rw [show z_and 116 255 = 116 by decide +kernel]
        refine ex_i2c rfl ?_
        rw [show z_i2c 116 = 116 by decide +kernel]
        refine ex_retc rfl (by omega) (by omega) rfl ?_
        refine ex_retc rfl (by omega) (by omega) rfl ?_
        by_cases k4 : pg n tx (a + 3) = 116
        · have a9 := pg_lt (n := n) (tx := tx) (a := a + 3) (by omega)
          refine ex_callQ (ct_R_skip_y (L := L) tJ3 aJ3 (by omega) (c := 116) (by decide) k4) (by decide) rfl ⟨rfl, rfl, rfl⟩ ⟨Nat.le_of_ble_eq_true rfl, rfl, rfl⟩ (Nat.le_of_ble_eq_true rfl) rfl (fun ra m2 hQ => ?_)
          obtain ⟨rfl, J4, rfl, aJ4, gJ4⟩ := hQ
          have fJ4 : ∀ k j, ¬ (k = 85 ∧ j = 2) → J4 k j = I k j := fun k j hk => by rw [gJ4 k j (by omega), fJ3 k j (by omega)]
          have tJ4 : TXc J4 n tx := hT.fr (fJ4 _ _ (by omega)) (fun j => fJ4 _ _ (by omega))
          refine ex_st 1 (pc' := 24) (ls' := [(2, xi 3), (0, xr 85), (1, xr 1011)]) (st' := []) rfl ?_
          refine ex_st 4 (pc' := 4) (ls' := [(2, xi 4), (0, xr 85), (1, xr 1011)]) (st' := [xr 1011, xi 4]) rfl ?_
          refine ex_inl (M' := xM_S_length) (as := [xr 1011]) (rest := [xi 4]) (D' := 7) rfl (Nat.le_of_ble_eq_true rfl) (by decide) rfl ⟨rfl, rfl, rfl⟩ ⟨Nat.le_of_ble_eq_true rfl, rfl, rfl⟩ (Nat.le_of_ble_eq_true rfl) rfl ?_
          refine ex_st 4 (pc' := 6) (ls' := [(0, xr 1011)]) (st' := [xr 1011, xi 7]) rfl ?_
          refine ex_inl (M' := xM_S_coder) (as := [xr 1011]) (rest := [xi 7]) (D' := 6) rfl (Nat.le_of_ble_eq_true rfl) (by decide) rfl ⟨rfl, rfl, rfl⟩ ⟨Nat.le_of_ble_eq_true rfl, rfl, rfl⟩ (Nat.le_of_ble_eq_true rfl) rfl ?_
          refine ex_st 1 (pc' := 3) (ls' := [(0, xr 1011)]) (st' := [xi 1]) rfl ?_
          refine ex_st 1 (pc' := 6) (ls' := [(0, xr 1011)]) (st' := []) rfl ?_
          refine ex_st 3 (pc' := 14) (ls' := [(0, xr 1011)]) (st' := [xi 0]) rfl ?_
          refine ex_ret6 rfl (by omega) (by omega) rfl ?_
          refine ex_ishr rfl ?_
          rw [show z_shr 7 0 = 7 by decide +kernel]
          refine ex_reti rfl rfl ?_
          refine ex_st 1 (pc' := 10) (ls' := [(2, xi 4), (0, xr 85), (1, xr 1011)]) (st' := []) rfl ?_
          refine ex_st 3 (pc' := 13) (ls' := [(2, xi 4), (0, xr 85), (1, xr 1011)]) (st' := [xi 4, xr 1011, xr 85]) rfl ?_
          refine ex_inl (M' := xM_S_charAt) (as := [xr 1011, xi 4]) (rest := [xr 85]) (D' := 7) rfl (Nat.le_of_ble_eq_true rfl) (by decide) rfl ⟨rfl, rfl, rfl⟩ ⟨Nat.le_of_ble_eq_true rfl, rfl, rfl⟩ (Nat.le_of_ble_eq_true rfl) rfl ?_
          refine ex_st 1 (pc' := 1) (ls' := [(0, xr 1011), (1, xi 4)]) (st' := [xr 1011]) rfl ?_
          refine ex_inl (M' := xM_S_isLatin1) (as := [xr 1011]) (rest := []) (D' := 6) rfl (Nat.le_of_ble_eq_true rfl) (by decide) rfl ⟨rfl, rfl, rfl⟩ ⟨Nat.le_of_ble_eq_true rfl, rfl, rfl⟩ (Nat.le_of_ble_eq_true rfl) rfl ?_
          refine ex_st 1 (pc' := 3) (ls' := [(0, xr 1011)]) (st' := [xi 1]) rfl ?_
          refine ex_st 1 (pc' := 6) (ls' := [(0, xr 1011)]) (st' := []) rfl ?_
          refine ex_st 2 (pc' := 10) (ls' := [(0, xr 1011)]) (st' := [xi 0]) rfl ?_
          refine ex_st 1 (pc' := 13) (ls' := [(0, xr 1011)]) (st' := []) rfl ?_
          refine ex_st 2 (pc' := 18) (ls' := [(0, xr 1011)]) (st' := [xi 1]) rfl ?_
          refine ex_retz rfl (Or.inr rfl) rfl ?_
          refine ex_st 1 (pc' := 7) (ls' := [(0, xr 1011), (1, xi 4)]) (st' := []) rfl ?_
          refine ex_st 3 (pc' := 12) (ls' := [(0, xr 1011), (1, xi 4)]) (st' := [xi 4, xr 1021]) rfl ?_
          refine ex_inl (M' := xM_L1_charAt) (as := [xr 1021, xi 4]) (rest := []) (D' := 6) rfl (Nat.le_of_ble_eq_true rfl) (by decide) rfl ⟨rfl, rfl, rfl⟩ ⟨Nat.le_of_ble_eq_true rfl, rfl, rfl⟩ (Nat.le_of_ble_eq_true rfl) rfl ?_
          refine ex_st 3 (pc' := 3) (ls' := [(0, xr 1021), (1, xi 4)]) (st' := [xi 7, xi 4]) rfl ?_
          refine ex_inl (M' := xM_S_checkIndex) (as := [xi 4, xi 7]) (rest := []) (D' := 5) rfl (Nat.le_of_ble_eq_true rfl) (by decide) rfl ⟨rfl, rfl, rfl⟩ ⟨Nat.le_of_ble_eq_true rfl, rfl, rfl⟩ (Nat.le_of_ble_eq_true rfl) rfl ?_
          refine ex_st 3 (pc' := 5) (ls' := [(0, xi 4), (1, xi 7)]) (st' := [xr 1030, xi 7, xi 4]) rfl ?_
          refine ex_inl (M' := xM_Pc_checkIndex) (as := [xi 4, xi 7, xr 1030]) (rest := []) (D' := 4) rfl (Nat.le_of_ble_eq_true rfl) (by decide) rfl ⟨rfl, rfl, rfl⟩ ⟨Nat.le_of_ble_eq_true rfl, rfl, rfl⟩ (Nat.le_of_ble_eq_true rfl) rfl ?_
          refine ex_st 1 (pc' := 1) (ls' := [(0, xi 4), (1, xi 7), (2, xr 1030)]) (st' := [xi 4]) rfl ?_
          refine ex_st 1 (pc' := 4) (ls' := [(0, xi 4), (1, xi 7), (2, xr 1030)]) (st' := []) rfl ?_
          refine ex_st 2 (pc' := 6) (ls' := [(0, xi 4), (1, xi 7), (2, xr 1030)]) (st' := [xi 7, xi 4]) rfl ?_
          refine ex_st 1 (pc' := 16) (ls' := [(0, xi 4), (1, xi 7), (2, xr 1030)]) (st' := []) rfl ?_
          refine ex_st 1 (pc' := 17) (ls' := [(0, xi 4), (1, xi 7), (2, xr 1030)]) (st' := [xi 4]) rfl ?_
          refine ex_reti rfl rfl ?_
          refine ex_st 1 (pc' := 9) (ls' := [(0, xi 4), (1, xi 7)]) (st' := []) rfl ?_
          refine ex_retv rfl rfl ?_
          refine ex_st 2 (pc' := 8) (ls' := [(0, xr 1021), (1, xi 4)]) (st' := [xi 4, xr 1021]) rfl ?_
          refine ex_cbald (v := 104) (j := 4) rfl (by decide) rfl rfl (by decide) (by decide) rfl ?_
          refine ex_st 1 (pc' := 12) (ls' := [(0, xr 1021), (1, xi 4)]) (st' := [xi 255, xi 104]) rfl ?_
          refine ex_iand rfl ?_
          rw [show z_and 104 255 = 104 by decide +kernel]
          refine ex_i2c rfl ?_
          rw [show z_i2c 104 = 104 by decide +kernel]
          refine ex_retc rfl (by omega) (by omega) rfl ?_
          refine ex_retc rfl (by omega) (by omega) rfl ?_
          by_cases k5 : pg n tx (a + 4) = 104
          · have a9 := pg_lt (n := n) (tx := tx) (a := a + 4) (by omega)
            refine ex_callQ (ct_R_skip_y (L := L) tJ4 aJ4 (by omega) (c := 104) (by decide) k5) (by decide) rfl ⟨rfl, rfl, rfl⟩ ⟨Nat.le_of_ble_eq_true rfl, rfl, rfl⟩ (Nat.le_of_ble_eq_true rfl) rfl (fun ra m2 hQ => ?_)
            obtain ⟨rfl, J5, rfl, aJ5, gJ5⟩ := hQ
            have fJ5 : ∀ k j, ¬ (k = 85 ∧ j = 2) → J5 k j = I k j := fun k j hk => by rw [gJ5 k j (by omega), fJ4 k j (by omega)]
            have tJ5 : TXc J5 n tx := hT.fr (fJ5 _ _ (by omega)) (fun j => fJ5 _ _ (by omega))
            refine ex_st 1 (pc' := 24) (ls' := [(2, xi 4), (0, xr 85), (1, xr 1011)]) (st' := []) rfl ?_
            refine ex_st 4 (pc' := 4) (ls' := [(2, xi 5), (0, xr 85), (1, xr 1011)]) (st' := [xr 1011, xi 5]) rfl ?_
            refine ex_inl (M' := xM_S_length) (as := [xr 1011]) (rest := [xi 5]) (D' := 7) rfl (Nat.le_of_ble_eq_true rfl) (by decide) rfl ⟨rfl, rfl, rfl⟩ ⟨Nat.le_of_ble_eq_true rfl, rfl, rfl⟩ (Nat.le_of_ble_eq_true rfl) rfl ?_
            refine ex_st 4 (pc' := 6) (ls' := [(0, xr 1011)]) (st' := [xr 1011, xi 7]) rfl ?_
            refine ex_inl (M' := xM_S_coder) (as := [xr 1011]) (rest := [xi 7]) (D' := 6) rfl (Nat.le_of_ble_eq_true rfl) (by decide) rfl ⟨rfl, rfl, rfl⟩ ⟨Nat.le_of_ble_eq_true rfl, rfl, rfl⟩ (Nat.le_of_ble_eq_true rfl) rfl ?_
            refine ex_st 1 (pc' := 3) (ls' := [(0, xr 1011)]) (st' := [xi 1]) rfl ?_
            refine ex_st 1 (pc' := 6) (ls' := [(0, xr 1011)]) (st' := []) rfl ?_
            refine ex_st 3 (pc' := 14) (ls' := [(0, xr 1011)]) (st' := [xi 0]) rfl ?_
            refine ex_ret6 rfl (by omega) (by omega) rfl ?_
            refine ex_ishr rfl ?_
            rw [show z_shr 7 0 = 7 by decide +kernel]
            refine ex_reti rfl rfl ?_
            refine ex_st 1 (pc' := 10) (ls' := [(2, xi 5), (0, xr 85), (1, xr 1011)]) (st' := []) rfl ?_
            refine ex_st 3 (pc' := 13) (ls' := [(2, xi 5), (0, xr 85), (1, xr 1011)]) (st' := [xi 5, xr 1011, xr 85]) rfl ?_
            refine ex_inl (M' := xM_S_charAt) (as := [xr 1011, xi 5]) (rest := [xr 85]) (D' := 7) rfl (Nat.le_of_ble_eq_true rfl) (by decide) rfl ⟨rfl, rfl, rfl⟩ ⟨Nat.le_of_ble_eq_true rfl, rfl, rfl⟩ (Nat.le_of_ble_eq_true rfl) rfl ?_
            refine ex_st 1 (pc' := 1) (ls' := [(0, xr 1011), (1, xi 5)]) (st' := [xr 1011]) rfl ?_
            refine ex_inl (M' := xM_S_isLatin1) (as := [xr 1011]) (rest := []) (D' := 6) rfl (Nat.le_of_ble_eq_true rfl) (by decide) rfl ⟨rfl, rfl, rfl⟩ ⟨Nat.le_of_ble_eq_true rfl, rfl, rfl⟩ (Nat.le_of_ble_eq_true rfl) rfl ?_
            refine ex_st 1 (pc' := 3) (ls' := [(0, xr 1011)]) (st' := [xi 1]) rfl ?_
            refine ex_st 1 (pc' := 6) (ls' := [(0, xr 1011)]) (st' := []) rfl ?_
            refine ex_st 2 (pc' := 10) (ls' := [(0, xr 1011)]) (st' := [xi 0]) rfl ?_
            refine ex_st 1 (pc' := 13) (ls' := [(0, xr 1011)]) (st' := []) rfl ?_
            refine ex_st 2 (pc' := 18) (ls' := [(0, xr 1011)]) (st' := [xi 1]) rfl ?_
            refine ex_retz rfl (Or.inr rfl) rfl ?_
            refine ex_st 1 (pc' := 7) (ls' := [(0, xr 1011), (1, xi 5)]) (st' := []) rfl ?_
            refine ex_st 3 (pc' := 12) (ls' := [(0, xr 1011), (1, xi 5)]) (st' := [xi 5, xr 1021]) rfl ?_
            refine ex_inl (M' := xM_L1_charAt) (as := [xr 1021, xi 5]) (rest := []) (D' := 6) rfl (Nat.le_of_ble_eq_true rfl) (by decide) rfl ⟨rfl, rfl, rfl⟩ ⟨Nat.le_of_ble_eq_true rfl, rfl, rfl⟩ (Nat.le_of_ble_eq_true rfl) rfl ?_
            refine ex_st 3 (pc' := 3) (ls' := [(0, xr 1021), (1, xi 5)]) (st' := [xi 7, xi 5]) rfl ?_
            refine ex_inl (M' := xM_S_checkIndex) (as := [xi 5, xi 7]) (rest := []) (D' := 5) rfl (Nat.le_of_ble_eq_true rfl) (by decide) rfl ⟨rfl, rfl, rfl⟩ ⟨Nat.le_of_ble_eq_true rfl, rfl, rfl⟩ (Nat.le_of_ble_eq_true rfl) rfl ?_
            refine ex_st 3 (pc' := 5) (ls' := [(0, xi 5), (1, xi 7)]) (st' := [xr 1030, xi 7, xi 5]) rfl ?_
            refine ex_inl (M' := xM_Pc_checkIndex) (as := [xi 5, xi 7, xr 1030]) (rest := []) (D' := 4) rfl (Nat.le_of_ble_eq_true rfl) (by decide) rfl ⟨rfl, rfl, rfl⟩ ⟨Nat.le_of_ble_eq_true rfl, rfl, rfl⟩ (Nat.le_of_ble_eq_true rfl) rfl ?_
            refine ex_st 1 (pc' := 1) (ls' := [(0, xi 5), (1, xi 7), (2, xr 1030)]) (st' := [xi 5]) rfl ?_
            refine ex_st 1 (pc' := 4) (ls' := [(0, xi 5), (1, xi 7), (2, xr 1030)]) (st' := []) rfl ?_
            refine ex_st 2 (pc' := 6) (ls' := [(0, xi 5), (1, xi 7), (2, xr 1030)]) (st' := [xi 7, xi 5]) rfl ?_
            refine ex_st 1 (pc' := 16) (ls' := [(0, xi 5), (1, xi 7), (2, xr 1030)]) (st' := []) rfl ?_
            refine ex_st 1 (pc' := 17) (ls' := [(0, xi 5), (1, xi 7), (2, xr 1030)]) (st' := [xi 5]) rfl ?_
            refine ex_reti rfl rfl ?_
            refine ex_st 1 (pc' := 9) (ls' := [(0, xi 5), (1, xi 7)]) (st' := []) rfl ?_
            refine ex_retv rfl rfl ?_
            refine ex_st 2 (pc' := 8) (ls' := [(0, xr 1021), (1, xi 5)]) (st' := [xi 5, xr 1021]) rfl ?_
            refine ex_cbald (v := 101) (j := 5) rfl (by decide) rfl rfl (by decide) (by decide) rfl ?_
            refine ex_st 1 (pc' := 12) (ls' := [(0, xr 1021), (1, xi 5)]) (st' := [xi 255, xi 101]) rfl ?_
            refine ex_iand rfl ?_
            rw [show z_and 101 255 = 101 by decide +kernel]
            refine ex_i2c rfl ?_
            rw [show z_i2c 101 = 101 by decide +kernel]
            refine ex_retc rfl (by omega) (by omega) rfl ?_
            refine ex_retc rfl (by omega) (by omega) rfl ?_
            by_cases k6 : pg n tx (a + 5) = 101
            · have a9 := pg_lt (n := n) (tx := tx) (a := a + 5) (by omega)
              refine ex_callQ (ct_R_skip_y (L := L) tJ5 aJ5 (by omega) (c := 101) (by decide) k6) (by decide) rfl ⟨rfl, rfl, rfl⟩ ⟨Nat.le_of_ble_eq_true rfl, rfl, rfl⟩ (Nat.le_of_ble_eq_true rfl) rfl (fun ra m2 hQ => ?_)
              obtain ⟨rfl, J6, rfl, aJ6, gJ6⟩ := hQ
              have fJ6 : ∀ k j, ¬ (k = 85 ∧ j = 2) → J6 k j = I k j := fun k j hk => by rw [gJ6 k j (by omega), fJ5 k j (by omega)]
              have tJ6 : TXc J6 n tx := hT.fr (fJ6 _ _ (by omega)) (fun j => fJ6 _ _ (by omega))
              refine ex_st 1 (pc' := 24) (ls' := [(2, xi 5), (0, xr 85), (1, xr 1011)]) (st' := []) rfl ?_
              refine ex_st 4 (pc' := 4) (ls' := [(2, xi 6), (0, xr 85), (1, xr 1011)]) (st' := [xr 1011, xi 6]) rfl ?_
              refine ex_inl (M' := xM_S_length) (as := [xr 1011]) (rest := [xi 6]) (D' := 7) rfl (Nat.le_of_ble_eq_true rfl) (by decide) rfl ⟨rfl, rfl, rfl⟩ ⟨Nat.le_of_ble_eq_true rfl, rfl, rfl⟩ (Nat.le_of_ble_eq_true rfl) rfl ?_
              refine ex_st 4 (pc' := 6) (ls' := [(0, xr 1011)]) (st' := [xr 1011, xi 7]) rfl ?_
              refine ex_inl (M' := xM_S_coder) (as := [xr 1011]) (rest := [xi 7]) (D' := 6) rfl (Nat.le_of_ble_eq_true rfl) (by decide) rfl ⟨rfl, rfl, rfl⟩ ⟨Nat.le_of_ble_eq_true rfl, rfl, rfl⟩ (Nat.le_of_ble_eq_true rfl) rfl ?_
              refine ex_st 1 (pc' := 3) (ls' := [(0, xr 1011)]) (st' := [xi 1]) rfl ?_
              refine ex_st 1 (pc' := 6) (ls' := [(0, xr 1011)]) (st' := []) rfl ?_
              refine ex_st 3 (pc' := 14) (ls' := [(0, xr 1011)]) (st' := [xi 0]) rfl ?_
              refine ex_ret6 rfl (by omega) (by omega) rfl ?_
              refine ex_ishr rfl ?_
              rw [show z_shr 7 0 = 7 by decide +kernel]
              refine ex_reti rfl rfl ?_
              refine ex_st 1 (pc' := 10) (ls' := [(2, xi 6), (0, xr 85), (1, xr 1011)]) (st' := []) rfl ?_
              refine ex_st 3 (pc' := 13) (ls' := [(2, xi 6), (0, xr 85), (1, xr 1011)]) (st' := [xi 6, xr 1011, xr 85]) rfl ?_
              refine ex_inl (M' := xM_S_charAt) (as := [xr 1011, xi 6]) (rest := [xr 85]) (D' := 7) rfl (Nat.le_of_ble_eq_true rfl) (by decide) rfl ⟨rfl, rfl, rfl⟩ ⟨Nat.le_of_ble_eq_true rfl, rfl, rfl⟩ (Nat.le_of_ble_eq_true rfl) rfl ?_
              refine ex_st 1 (pc' := 1) (ls' := [(0, xr 1011), (1, xi 6)]) (st' := [xr 1011]) rfl ?_
              refine ex_inl (M' := xM_S_isLatin1) (as := [xr 1011]) (rest := []) (D' := 6) rfl (Nat.le_of_ble_eq_true rfl) (by decide) rfl ⟨rfl, rfl, rfl⟩ ⟨Nat.le_of_ble_eq_true rfl, rfl, rfl⟩ (Nat.le_of_ble_eq_true rfl) rfl ?_
              refine ex_st 1 (pc' := 3) (ls' := [(0, xr 1011)]) (st' := [xi 1]) rfl ?_
              refine ex_st 1 (pc' := 6) (ls' := [(0, xr 1011)]) (st' := []) rfl ?_
              refine ex_st 2 (pc' := 10) (ls' := [(0, xr 1011)]) (st' := [xi 0]) rfl ?_
              refine ex_st 1 (pc' := 13) (ls' := [(0, xr 1011)]) (st' := []) rfl ?_
              refine ex_st 2 (pc' := 18) (ls' := [(0, xr 1011)]) (st' := [xi 1]) rfl ?_
              refine ex_retz rfl (Or.inr rfl) rfl ?_
              refine ex_st 1 (pc' := 7) (ls' := [(0, xr 1011), (1, xi 6)]) (st' := []) rfl ?_
              refine ex_st 3 (pc' := 12) (ls' := [(0, xr 1011), (1, xi 6)]) (st' := [xi 6, xr 1021]) rfl ?_
              refine ex_inl (M' := xM_L1_charAt) (as := [xr 1021, xi 6]) (rest := []) (D' := 6) rfl (Nat.le_of_ble_eq_true rfl) (by decide) rfl ⟨rfl, rfl, rfl⟩ ⟨Nat.le_of_ble_eq_true rfl, rfl, rfl⟩ (Nat.le_of_ble_eq_true rfl) rfl ?_
              refine ex_st 3 (pc' := 3) (ls' := [(0, xr 1021), (1, xi 6)]) (st' := [xi 7, xi 6]) rfl ?_
              refine ex_inl (M' := xM_S_checkIndex) (as := [xi 6, xi 7]) (rest := []) (D' := 5) rfl (Nat.le_of_ble_eq_true rfl) (by decide) rfl ⟨rfl, rfl, rfl⟩ ⟨Nat.le_of_ble_eq_true rfl, rfl, rfl⟩ (Nat.le_of_ble_eq_true rfl) rfl ?_
              refine ex_st 3 (pc' := 5) (ls' := [(0, xi 6), (1, xi 7)]) (st' := [xr 1030, xi 7, xi 6]) rfl ?_
              refine ex_inl (M' := xM_Pc_checkIndex) (as := [xi 6, xi 7, xr 1030]) (rest := []) (D' := 4) rfl (Nat.le_of_ble_eq_true rfl) (by decide) rfl ⟨rfl, rfl, rfl⟩ ⟨Nat.le_of_ble_eq_true rfl, rfl, rfl⟩ (Nat.le_of_ble_eq_true rfl) rfl ?_
              refine ex_st 1 (pc' := 1) (ls' := [(0, xi 6), (1, xi 7), (2, xr 1030)]) (st' := [xi 6]) rfl ?_
              refine ex_st 1 (pc' := 4) (ls' := [(0, xi 6), (1, xi 7), (2, xr 1030)]) (st' := []) rfl ?_
              refine ex_st 2 (pc' := 6) (ls' := [(0, xi 6), (1, xi 7), (2, xr 1030)]) (st' := [xi 7, xi 6]) rfl ?_
              refine ex_st 1 (pc' := 16) (ls' := [(0, xi 6), (1, xi 7), (2, xr 1030)]) (st' := []) rfl ?_
              refine ex_st 1 (pc' := 17) (ls' := [(0, xi 6), (1, xi 7), (2, xr 1030)]) (st' := [xi 6]) rfl ?_
              refine ex_reti rfl rfl ?_
              refine ex_st 1 (pc' := 9) (ls' := [(0, xi 6), (1, xi 7)]) (st' := []) rfl ?_
              refine ex_retv rfl rfl ?_
              refine ex_st 2 (pc' := 8) (ls' := [(0, xr 1021), (1, xi 6)]) (st' := [xi 6, xr 1021]) rfl ?_
              refine ex_cbald (v := 32) (j := 6) rfl (by decide) rfl rfl (by decide) (by decide) rfl ?_
              refine ex_st 1 (pc' := 12) (ls' := [(0, xr 1021), (1, xi 6)]) (st' := [xi 255, xi 32]) rfl ?_
              refine ex_iand rfl ?_
              rw [show z_and 32 255 = 32 by decide +kernel]
              refine ex_i2c rfl ?_
              rw [show z_i2c 32 = 32 by decide +kernel]
              refine ex_retc rfl (by omega) (by omega) rfl ?_
              refine ex_retc rfl (by omega) (by omega) rfl ?_
              by_cases k7 : pg n tx (a + 6) = 32
              · have a9 := pg_lt (n := n) (tx := tx) (a := a + 6) (by omega)
                refine ex_callQ (ct_R_skip_y (L := L) tJ6 aJ6 (by omega) (c := 32) (by decide) k7) (by decide) rfl ⟨rfl, rfl, rfl⟩ ⟨Nat.le_of_ble_eq_true rfl, rfl, rfl⟩ (Nat.le_of_ble_eq_true rfl) rfl (fun ra m2 hQ => ?_)
                obtain ⟨rfl, J7, rfl, aJ7, gJ7⟩ := hQ
                have fJ7 : ∀ k j, ¬ (k = 85 ∧ j = 2) → J7 k j = I k j := fun k j hk => by rw [gJ7 k j (by omega), fJ6 k j (by omega)]
                have tJ7 : TXc J7 n tx := hT.fr (fJ7 _ _ (by omega)) (fun j => fJ7 _ _ (by omega))
                refine ex_st 1 (pc' := 24) (ls' := [(2, xi 6), (0, xr 85), (1, xr 1011)]) (st' := []) rfl ?_
                refine ex_st 4 (pc' := 4) (ls' := [(2, xi 7), (0, xr 85), (1, xr 1011)]) (st' := [xr 1011, xi 7]) rfl ?_
                refine ex_inl (M' := xM_S_length) (as := [xr 1011]) (rest := [xi 7]) (D' := 7) rfl (Nat.le_of_ble_eq_true rfl) (by decide) rfl ⟨rfl, rfl, rfl⟩ ⟨Nat.le_of_ble_eq_true rfl, rfl, rfl⟩ (Nat.le_of_ble_eq_true rfl) rfl ?_
                refine ex_st 4 (pc' := 6) (ls' := [(0, xr 1011)]) (st' := [xr 1011, xi 7]) rfl ?_
                refine ex_inl (M' := xM_S_coder) (as := [xr 1011]) (rest := [xi 7]) (D' := 6) rfl (Nat.le_of_ble_eq_true rfl) (by decide) rfl ⟨rfl, rfl, rfl⟩ ⟨Nat.le_of_ble_eq_true rfl, rfl, rfl⟩ (Nat.le_of_ble_eq_true rfl) rfl ?_
                refine ex_st 1 (pc' := 3) (ls' := [(0, xr 1011)]) (st' := [xi 1]) rfl ?_
                refine ex_st 1 (pc' := 6) (ls' := [(0, xr 1011)]) (st' := []) rfl ?_
                refine ex_st 3 (pc' := 14) (ls' := [(0, xr 1011)]) (st' := [xi 0]) rfl ?_
                refine ex_ret6 rfl (by omega) (by omega) rfl ?_
                refine ex_ishr rfl ?_
                rw [show z_shr 7 0 = 7 by decide +kernel]
                refine ex_reti rfl rfl ?_
                refine ex_st 1 (pc' := 30) (ls' := [(2, xi 7), (0, xr 85), (1, xr 1011)]) (st' := []) rfl ?_
                refine ex_st 1 (pc' := 31) (ls' := [(2, xi 7), (0, xr 85), (1, xr 1011)]) (st' := [xi 1]) rfl ?_
                refine ex_retz rfl (Or.inr rfl) rfl ?_
                have e9 : p_w n tx [108, 111, 97, 116, 104, 101, 32] a = (a + 7, true) := by simp only [p_w]; rw [if_pos k1, if_pos k2, if_pos k3, if_pos k4, if_pos k5, if_pos k6, if_pos k7]
                rw [e9]
                exact ⟨rfl, J7, rfl, aJ7, fJ7, by show a + 7 ≤ n; omega⟩
              · refine ex_call (ct_R_skip_n (L := L) tJ6 aJ6 (by omega) (c := 32) (by decide) k7) (by decide) rfl ⟨rfl, rfl, rfl⟩ ⟨Nat.le_of_ble_eq_true rfl, rfl, rfl⟩ (Nat.le_of_ble_eq_true rfl) rfl ?_
                refine ex_st 1 (pc' := 22) (ls' := [(2, xi 6), (0, xr 85), (1, xr 1011)]) (st' := []) rfl ?_
                refine ex_st 1 (pc' := 23) (ls' := [(2, xi 6), (0, xr 85), (1, xr 1011)]) (st' := [xi 0]) rfl ?_
                refine ex_retz rfl (Or.inl rfl) rfl ?_
                have e9 : p_w n tx [108, 111, 97, 116, 104, 101, 32] a = (a + 6, false) := by simp only [p_w]; rw [if_pos k1, if_pos k2, if_pos k3, if_pos k4, if_pos k5, if_pos k6, if_neg k7]
                rw [e9]
                exact ⟨rfl, J6, rfl, aJ6, fJ6, by show a + 6 ≤ n; omega⟩
            · refine ex_call (ct_R_skip_n (L := L) tJ5 aJ5 (by omega) (c := 101) (by decide) k6) (by decide) rfl ⟨rfl, rfl, rfl⟩ ⟨Nat.le_of_ble_eq_true rfl, rfl, rfl⟩ (Nat.le_of_ble_eq_true rfl) rfl ?_
              refine ex_st 1 (pc' := 22) (ls' := [(2, xi 5), (0, xr 85), (1, xr 1011)]) (st' := []) rfl ?_
              refine ex_st 1 (pc' := 23) (ls' := [(2, xi 5), (0, xr 85), (1, xr 1011)]) (st' := [xi 0]) rfl ?_
              refine ex_retz rfl (Or.inl rfl) rfl ?_
              have e9 : p_w n tx [108, 111, 97, 116, 104, 101, 32] a = (a + 5, false) := by simp only [p_w]; rw [if_pos k1, if_pos k2, if_pos k3, if_pos k4, if_pos k5, if_neg k6]
              rw [e9]
              exact ⟨rfl, J5, rfl, aJ5, fJ5, by show a + 5 ≤ n; omega⟩
          · refine ex_call (ct_R_skip_n (L := L) tJ4 aJ4 (by omega) (c := 104) (by decide) k5) (by decide) rfl ⟨rfl, rfl, rfl⟩ ⟨Nat.le_of_ble_eq_true rfl, rfl, rfl⟩ (Nat.le_of_ble_eq_true rfl) rfl ?_
            refine ex_st 1 (pc' := 22) (ls' := [(2, xi 4), (0, xr 85), (1, xr 1011)]) (st' := []) rfl ?_
            refine ex_st 1 (pc' := 23) (ls' := [(2, xi 4), (0, xr 85), (1, xr 1011)]) (st' := [xi 0]) rfl ?_
            refine ex_retz rfl (Or.inl rfl) rfl ?_
            have e9 : p_w n tx [108, 111, 97, 116, 104, 101, 32] a = (a + 4, false) := by simp only [p_w]; rw [if_pos k1, if_pos k2, if_pos k3, if_pos k4, if_neg k5]
            rw [e9]
            exact ⟨rfl, J4, rfl, aJ4, fJ4, by show a + 4 ≤ n; omega⟩
        · refine ex_call (ct_R_skip_n (L := L) tJ3 aJ3 (by omega) (c := 116) (by decide) k4) (by decide) rfl ⟨rfl, rfl, rfl⟩ ⟨Nat.le_of_ble_eq_true rfl, rfl, rfl⟩ (Nat.le_of_ble_eq_true rfl) rfl ?_
          refine ex_st 1 (pc' := 22) (ls' := [(2, xi 3), (0, xr 85), (1, xr 1011)]) (st' := []) rfl ?_
          refine ex_st 1 (pc' := 23) (ls' := [(2, xi 3), (0, xr 85), (1, xr 1011)]) (st' := [xi 0]) rfl ?_
          refine ex_retz rfl (Or.inl rfl) rfl ?_
          have e9 : p_w n tx [108, 111, 97, 116, 104, 101, 32] a = (a + 3, false) := by simp only [p_w]; rw [if_pos k1, if_pos k2, if_pos k3, if_neg k4]
          rw [e9]
          exact ⟨rfl, J3, rfl, aJ3, fJ3, by show a + 3 ≤ n; omega⟩
      · refine ex_call (ct_R_skip_n (L := L) tJ2 aJ2 (by omega) (c := 97) (by decide) k3) (by decide) rfl ⟨rfl, rfl, rfl⟩ ⟨Nat.le_of_ble_eq_true rfl, rfl, rfl⟩ (Nat.le_of_ble_eq_true rfl) rfl ?_
        refine ex_st 1 (pc' := 22) (ls' := [(2, xi 2), (0, xr 85), (1, xr 1011)]) (st' := []) rfl ?_
        refine ex_st 1 (pc' := 23) (ls' := [(2, xi 2), (0, xr 85), (1, xr 1011)]) (st' := [xi 0]) rfl ?_
        refine ex_retz rfl (Or.inl rfl) rfl ?_
        have e9 : p_w n tx [108, 111, 97, 116, 104, 101, 32] a = (a + 2, false) := by simp only [p_w]; rw [if_pos k1, if_pos k2, if_neg k3]
        rw [e9]
        exact ⟨rfl, J2, rfl, aJ2, fJ2, by show a + 2 ≤ n; omega⟩
    · refine ex_call (ct_R_skip_n (L := L) tJ1 aJ1 (by omega) (c := 111) (by decide) k2) (by decide) rfl ⟨rfl, rfl, rfl⟩ ⟨Nat.le_of_ble_eq_true rfl, rfl, rfl⟩ (Nat.le_of_ble_eq_true rfl) rfl ?_
      refine ex_st 1 (pc' := 22) (ls' := [(2, xi 1), (0, xr 85), (1, xr 1011)]) (st' := []) rfl ?_
      refine ex_st 1 (pc' := 23) (ls' := [(2, xi 1), (0, xr 85), (1, xr 1011)]) (st' := [xi 0]) rfl ?_
      refine ex_retz rfl (Or.inl rfl) rfl ?_
      have e9 : p_w n tx [108, 111, 97, 116, 104, 101, 32] a = (a + 1, false) := by simp only [p_w]; rw [if_pos k1, if_neg k2]
      rw [e9]
      exact ⟨rfl, J1, rfl, aJ1, fJ1, by show a + 1 ≤ n; omega⟩
  · refine ex_call (ct_R_skip_n (L := L) hT ha (by omega) (c := 108) (by decide) k1) (by decide) rfl ⟨rfl, rfl, rfl⟩ ⟨Nat.le_of_ble_eq_true rfl, rfl, rfl⟩ (Nat.le_of_ble_eq_true rfl) rfl ?_
    refine ex_st 1 (pc' := 22) (ls' := [(2, xi 0), (0, xr 85), (1, xr 1011)]) (st' := []) rfl ?_
    refine ex_st 1 (pc' := 23) (ls' := [(2, xi 0), (0, xr 85), (1, xr 1011)]) (st' := [xi 0]) rfl ?_
    refine ex_retz rfl (Or.inl rfl) rfl ?_
    have e9 : p_w n tx [108, 111, 97, 116, 104, 101, 32] a = (a, false) := by simp only [p_w]; rw [if_neg k1]
    rw [e9]
    exact ⟨rfl, I, rfl, ha, (fun _ _ _ => rfl), by show a ≤ n; omega⟩
theorem ct_R_skipWord1012 {sc : List Int} {I : Nat → Nat → Int} {L : Nat → Nat → Int64} {n : Nat} {tx : Nat → Nat} (hT : TXc I n tx) {a : Nat} (ha : I 85 2 = (a : Int)) (han : a ≤ n) : x_CQ sc 9 xN_R_skipWord [xr 85, xr 1012] (xSH, I, L) (fun r m' => r = some (xi (x_b ((p_w n tx [113, 117, 111, 116, 97, 32] a).2 = true))) ∧ ∃ I', m' = (xSH, I', L) ∧ I' 85 2 = ((p_w n tx [113, 117, 111, 116, 97, 32] a).1 : Int) ∧ (∀ k j, ¬ (k = 85 ∧ j = 2) → I' k j = I k j) ∧ (p_w n tx [113, 117, 111, 116, 97, 32] a).1 ≤ n) := by
  have hn100 := hT.2.1
  refine x_CQ.of (M := xM_R_skipWord) rfl (Nat.le_of_ble_eq_true rfl) ?_
  refine ex_st 4 (pc' := 4) (ls' := [(2, xi 0), (0, xr 85), (1, xr 1012)]) (st' := [xr 1012, xi 0]) rfl ?_
  refine ex_inl (M' := xM_S_length) (as := [xr 1012]) (rest := [xi 0]) (D' := 7) rfl (Nat.le_of_ble_eq_true rfl) (by decide) rfl ⟨rfl, rfl, rfl⟩ ⟨Nat.le_of_ble_eq_true rfl, rfl, rfl⟩ (Nat.le_of_ble_eq_true rfl) rfl ?_
  refine ex_st 4 (pc' := 6) (ls' := [(0, xr 1012)]) (st' := [xr 1012, xi 6]) rfl ?_
  refine ex_inl (M' := xM_S_coder) (as := [xr 1012]) (rest := [xi 6]) (D' := 6) rfl (Nat.le_of_ble_eq_true rfl) (by decide) rfl ⟨rfl, rfl, rfl⟩ ⟨Nat.le_of_ble_eq_true rfl, rfl, rfl⟩ (Nat.le_of_ble_eq_true rfl) rfl ?_
  refine ex_st 1 (pc' := 3) (ls' := [(0, xr 1012)]) (st' := [xi 1]) rfl ?_
  refine ex_st 1 (pc' := 6) (ls' := [(0, xr 1012)]) (st' := []) rfl ?_
  refine ex_st 3 (pc' := 14) (ls' := [(0, xr 1012)]) (st' := [xi 0]) rfl ?_
  refine ex_ret6 rfl (by omega) (by omega) rfl ?_
  refine ex_ishr rfl ?_
  rw [show z_shr 6 0 = 6 by decide +kernel]
  refine ex_reti rfl rfl ?_
  refine ex_st 1 (pc' := 10) (ls' := [(2, xi 0), (0, xr 85), (1, xr 1012)]) (st' := []) rfl ?_
  refine ex_st 3 (pc' := 13) (ls' := [(2, xi 0), (0, xr 85), (1, xr 1012)]) (st' := [xi 0, xr 1012, xr 85]) rfl ?_
  refine ex_inl (M' := xM_S_charAt) (as := [xr 1012, xi 0]) (rest := [xr 85]) (D' := 7) rfl (Nat.le_of_ble_eq_true rfl) (by decide) rfl ⟨rfl, rfl, rfl⟩ ⟨Nat.le_of_ble_eq_true rfl, rfl, rfl⟩ (Nat.le_of_ble_eq_true rfl) rfl ?_
  refine ex_st 1 (pc' := 1) (ls' := [(0, xr 1012), (1, xi 0)]) (st' := [xr 1012]) rfl ?_
  refine ex_inl (M' := xM_S_isLatin1) (as := [xr 1012]) (rest := []) (D' := 6) rfl (Nat.le_of_ble_eq_true rfl) (by decide) rfl ⟨rfl, rfl, rfl⟩ ⟨Nat.le_of_ble_eq_true rfl, rfl, rfl⟩ (Nat.le_of_ble_eq_true rfl) rfl ?_
  refine ex_st 1 (pc' := 3) (ls' := [(0, xr 1012)]) (st' := [xi 1]) rfl ?_
  refine ex_st 1 (pc' := 6) (ls' := [(0, xr 1012)]) (st' := []) rfl ?_
  refine ex_st 2 (pc' := 10) (ls' := [(0, xr 1012)]) (st' := [xi 0]) rfl ?_
  refine ex_st 1 (pc' := 13) (ls' := [(0, xr 1012)]) (st' := []) rfl ?_
  refine ex_st 2 (pc' := 18) (ls' := [(0, xr 1012)]) (st' := [xi 1]) rfl ?_
  refine ex_retz rfl (Or.inr rfl) rfl ?_
  refine ex_st 1 (pc' := 7) (ls' := [(0, xr 1012), (1, xi 0)]) (st' := []) rfl ?_
  refine ex_st 3 (pc' := 12) (ls' := [(0, xr 1012), (1, xi 0)]) (st' := [xi 0, xr 1022]) rfl ?_
  refine ex_inl (M' := xM_L1_charAt) (as := [xr 1022, xi 0]) (rest := []) (D' := 6) rfl (Nat.le_of_ble_eq_true rfl) (by decide) rfl ⟨rfl, rfl, rfl⟩ ⟨Nat.le_of_ble_eq_true rfl, rfl, rfl⟩ (Nat.le_of_ble_eq_true rfl) rfl ?_
  refine ex_st 3 (pc' := 3) (ls' := [(0, xr 1022), (1, xi 0)]) (st' := [xi 6, xi 0]) rfl ?_
  refine ex_inl (M' := xM_S_checkIndex) (as := [xi 0, xi 6]) (rest := []) (D' := 5) rfl (Nat.le_of_ble_eq_true rfl) (by decide) rfl ⟨rfl, rfl, rfl⟩ ⟨Nat.le_of_ble_eq_true rfl, rfl, rfl⟩ (Nat.le_of_ble_eq_true rfl) rfl ?_
  refine ex_st 3 (pc' := 5) (ls' := [(0, xi 0), (1, xi 6)]) (st' := [xr 1030, xi 6, xi 0]) rfl ?_
  refine ex_inl (M' := xM_Pc_checkIndex) (as := [xi 0, xi 6, xr 1030]) (rest := []) (D' := 4) rfl (Nat.le_of_ble_eq_true rfl) (by decide) rfl ⟨rfl, rfl, rfl⟩ ⟨Nat.le_of_ble_eq_true rfl, rfl, rfl⟩ (Nat.le_of_ble_eq_true rfl) rfl ?_
  refine ex_st 1 (pc' := 1) (ls' := [(0, xi 0), (1, xi 6), (2, xr 1030)]) (st' := [xi 0]) rfl ?_
  refine ex_st 1 (pc' := 4) (ls' := [(0, xi 0), (1, xi 6), (2, xr 1030)]) (st' := []) rfl ?_
  refine ex_st 2 (pc' := 6) (ls' := [(0, xi 0), (1, xi 6), (2, xr 1030)]) (st' := [xi 6, xi 0]) rfl ?_
  refine ex_st 1 (pc' := 16) (ls' := [(0, xi 0), (1, xi 6), (2, xr 1030)]) (st' := []) rfl ?_
  refine ex_st 1 (pc' := 17) (ls' := [(0, xi 0), (1, xi 6), (2, xr 1030)]) (st' := [xi 0]) rfl ?_
  refine ex_reti rfl rfl ?_
  refine ex_st 1 (pc' := 9) (ls' := [(0, xi 0), (1, xi 6)]) (st' := []) rfl ?_
  refine ex_retv rfl rfl ?_
  refine ex_st 2 (pc' := 8) (ls' := [(0, xr 1022), (1, xi 0)]) (st' := [xi 0, xr 1022]) rfl ?_
  refine ex_cbald (v := 113) (j := 0) rfl (by decide) rfl rfl (by decide) (by decide) rfl ?_
  refine ex_st 1 (pc' := 12) (ls' := [(0, xr 1022), (1, xi 0)]) (st' := [xi 255, xi 113]) rfl ?_
  refine ex_iand rfl ?_
  rw [show z_and 113 255 = 113 by decide +kernel]
  refine ex_i2c rfl ?_
  rw [show z_i2c 113 = 113 by decide +kernel]
  refine ex_retc rfl (by omega) (by omega) rfl ?_
  refine ex_retc rfl (by omega) (by omega) rfl ?_
  by_cases k1 : pg n tx (a) = 113
  · have a9 := pg_lt (n := n) (tx := tx) (a := a) (by omega)
    refine ex_callQ (ct_R_skip_y (L := L) hT ha (by omega) (c := 113) (by decide) k1) (by decide) rfl ⟨rfl, rfl, rfl⟩ ⟨Nat.le_of_ble_eq_true rfl, rfl, rfl⟩ (Nat.le_of_ble_eq_true rfl) rfl (fun ra m2 hQ => ?_)
    obtain ⟨rfl, J1, rfl, aJ1, gJ1⟩ := hQ
    have fJ1 : ∀ k j, ¬ (k = 85 ∧ j = 2) → J1 k j = I k j := fun k j hk => by rw [gJ1 k j (by omega)]
    have tJ1 : TXc J1 n tx := hT.fr (fJ1 _ _ (by omega)) (fun j => fJ1 _ _ (by omega))
    refine ex_st 1 (pc' := 24) (ls' := [(2, xi 0), (0, xr 85), (1, xr 1012)]) (st' := []) rfl ?_
    refine ex_st 4 (pc' := 4) (ls' := [(2, xi 1), (0, xr 85), (1, xr 1012)]) (st' := [xr 1012, xi 1]) rfl ?_
    refine ex_inl (M' := xM_S_length) (as := [xr 1012]) (rest := [xi 1]) (D' := 7) rfl (Nat.le_of_ble_eq_true rfl) (by decide) rfl ⟨rfl, rfl, rfl⟩ ⟨Nat.le_of_ble_eq_true rfl, rfl, rfl⟩ (Nat.le_of_ble_eq_true rfl) rfl ?_
    refine ex_st 4 (pc' := 6) (ls' := [(0, xr 1012)]) (st' := [xr 1012, xi 6]) rfl ?_
    refine ex_inl (M' := xM_S_coder) (as := [xr 1012]) (rest := [xi 6]) (D' := 6) rfl (Nat.le_of_ble_eq_true rfl) (by decide) rfl ⟨rfl, rfl, rfl⟩ ⟨Nat.le_of_ble_eq_true rfl, rfl, rfl⟩ (Nat.le_of_ble_eq_true rfl) rfl ?_
    refine ex_st 1 (pc' := 3) (ls' := [(0, xr 1012)]) (st' := [xi 1]) rfl ?_
    refine ex_st 1 (pc' := 6) (ls' := [(0, xr 1012)]) (st' := []) rfl ?_
    refine ex_st 3 (pc' := 14) (ls' := [(0, xr 1012)]) (st' := [xi 0]) rfl ?_
    refine ex_ret6 rfl (by omega) (by omega) rfl ?_
    refine ex_ishr rfl ?_
    rw [show z_shr 6 0 = 6 by decide +kernel]
    refine ex_reti rfl rfl ?_
    refine ex_st 1 (pc' := 10) (ls' := [(2, xi 1), (0, xr 85), (1, xr 1012)]) (st' := []) rfl ?_
    refine ex_st 3 (pc' := 13) (ls' := [(2, xi 1), (0, xr 85), (1, xr 1012)]) (st' := [xi 1, xr 1012, xr 85]) rfl ?_
    refine ex_inl (M' := xM_S_charAt) (as := [xr 1012, xi 1]) (rest := [xr 85]) (D' := 7) rfl (Nat.le_of_ble_eq_true rfl) (by decide) rfl ⟨rfl, rfl, rfl⟩ ⟨Nat.le_of_ble_eq_true rfl, rfl, rfl⟩ (Nat.le_of_ble_eq_true rfl) rfl ?_
    refine ex_st 1 (pc' := 1) (ls' := [(0, xr 1012), (1, xi 1)]) (st' := [xr 1012]) rfl ?_
    refine ex_inl (M' := xM_S_isLatin1) (as := [xr 1012]) (rest := []) (D' := 6) rfl (Nat.le_of_ble_eq_true rfl) (by decide) rfl ⟨rfl, rfl, rfl⟩ ⟨Nat.le_of_ble_eq_true rfl, rfl, rfl⟩ (Nat.le_of_ble_eq_true rfl) rfl ?_
    refine ex_st 1 (pc' := 3) (ls' := [(0, xr 1012)]) (st' := [xi 1]) rfl ?_
    refine ex_st 1 (pc' := 6) (ls' := [(0, xr 1012)]) (st' := []) rfl ?_
    refine ex_st 2 (pc' := 10) (ls' := [(0, xr 1012)]) (st' := [xi 0]) rfl ?_
    refine ex_st 1 (pc' := 13) (ls' := [(0, xr 1012)]) (st' := []) rfl ?_
    refine ex_st 2 (pc' := 18) (ls' := [(0, xr 1012)]) (st' := [xi 1]) rfl ?_
    refine ex_retz rfl (Or.inr rfl) rfl ?_
    refine ex_st 1 (pc' := 7) (ls' := [(0, xr 1012), (1, xi 1)]) (st' := []) rfl ?_
    refine ex_st 3 (pc' := 12) (ls' := [(0, xr 1012), (1, xi 1)]) (st' := [xi 1, xr 1022]) rfl ?_
    refine ex_inl (M' := xM_L1_charAt) (as := [xr 1022, xi 1]) (rest := []) (D' := 6) rfl (Nat.le_of_ble_eq_true rfl) (by decide) rfl ⟨rfl, rfl, rfl⟩ ⟨Nat.le_of_ble_eq_true rfl, rfl, rfl⟩ (Nat.le_of_ble_eq_true rfl) rfl ?_
    refine ex_st 3 (pc' := 3) (ls' := [(0, xr 1022), (1, xi 1)]) (st' := [xi 6, xi 1]) rfl ?_
    refine ex_inl (M' := xM_S_checkIndex) (as := [xi 1, xi 6]) (rest := []) (D' := 5) rfl (Nat.le_of_ble_eq_true rfl) (by decide) rfl ⟨rfl, rfl, rfl⟩ ⟨Nat.le_of_ble_eq_true rfl, rfl, rfl⟩ (Nat.le_of_ble_eq_true rfl) rfl ?_
    refine ex_st 3 (pc' := 5) (ls' := [(0, xi 1), (1, xi 6)]) (st' := [xr 1030, xi 6, xi 1]) rfl ?_
    refine ex_inl (M' := xM_Pc_checkIndex) (as := [xi 1, xi 6, xr 1030]) (rest := []) (D' := 4) rfl (Nat.le_of_ble_eq_true rfl) (by decide) rfl ⟨rfl, rfl, rfl⟩ ⟨Nat.le_of_ble_eq_true rfl, rfl, rfl⟩ (Nat.le_of_ble_eq_true rfl) rfl ?_
    refine ex_st 1 (pc' := 1) (ls' := [(0, xi 1), (1, xi 6), (2, xr 1030)]) (st' := [xi 1]) rfl ?_
    refine ex_st 1 (pc' := 4) (ls' := [(0, xi 1), (1, xi 6), (2, xr 1030)]) (st' := []) rfl ?_
    refine ex_st 2 (pc' := 6) (ls' := [(0, xi 1), (1, xi 6), (2, xr 1030)]) (st' := [xi 6, xi 1]) rfl ?_
    refine ex_st 1 (pc' := 16) (ls' := [(0, xi 1), (1, xi 6), (2, xr 1030)]) (st' := []) rfl ?_
    refine ex_st 1 (pc' := 17) (ls' := [(0, xi 1), (1, xi 6), (2, xr 1030)]) (st' := [xi 1]) rfl ?_
    refine ex_reti rfl rfl ?_
    refine ex_st 1 (pc' := 9) (ls' := [(0, xi 1), (1, xi 6)]) (st' := []) rfl ?_
    refine ex_retv rfl rfl ?_
    refine ex_st 2 (pc' := 8) (ls' := [(0, xr 1022), (1, xi 1)]) (st' := [xi 1, xr 1022]) rfl ?_
    refine ex_cbald (v := 117) (j := 1) rfl (by decide) rfl rfl (by decide) (by decide) rfl ?_
    refine ex_st 1 (pc' := 12) (ls' := [(0, xr 1022), (1, xi 1)]) (st' := [xi 255, xi 117]) rfl ?_
    refine ex_iand rfl ?_
    rw [show z_and 117 255 = 117 by decide +kernel]
    refine ex_i2c rfl ?_
    rw [show z_i2c 117 = 117 by decide +kernel]
    refine ex_retc rfl (by omega) (by omega) rfl ?_
    refine ex_retc rfl (by omega) (by omega) rfl ?_
    by_cases k2 : pg n tx (a + 1) = 117
    · have a9 := pg_lt (n := n) (tx := tx) (a := a + 1) (by omega)
      refine ex_callQ (ct_R_skip_y (L := L) tJ1 aJ1 (by omega) (c := 117) (by decide) k2) (by decide) rfl ⟨rfl, rfl, rfl⟩ ⟨Nat.le_of_ble_eq_true rfl, rfl, rfl⟩ (Nat.le_of_ble_eq_true rfl) rfl (fun ra m2 hQ => ?_)
      obtain ⟨rfl, J2, rfl, aJ2, gJ2⟩ := hQ
      have fJ2 : ∀ k j, ¬ (k = 85 ∧ j = 2) → J2 k j = I k j := fun k j hk => by rw [gJ2 k j (by omega), fJ1 k j (by omega)]
      have tJ2 : TXc J2 n tx := hT.fr (fJ2 _ _ (by omega)) (fun j => fJ2 _ _ (by omega))
      refine ex_st 1 (pc' := 24) (ls' := [(2, xi 1), (0, xr 85), (1, xr 1012)]) (st' := []) rfl ?_
      refine ex_st 4 (pc' := 4) (ls' := [(2, xi 2), (0, xr 85), (1, xr 1012)]) (st' := [xr 1012, xi 2]) rfl ?_
      refine ex_inl (M' := xM_S_length) (as := [xr 1012]) (rest := [xi 2]) (D' := 7) rfl (Nat.le_of_ble_eq_true rfl) (by decide) rfl ⟨rfl, rfl, rfl⟩ ⟨Nat.le_of_ble_eq_true rfl, rfl, rfl⟩ (Nat.le_of_ble_eq_true rfl) rfl ?_
      refine ex_st 4 (pc' := 6) (ls' := [(0, xr 1012)]) (st' := [xr 1012, xi 6]) rfl ?_
      refine ex_inl (M' := xM_S_coder) (as := [xr 1012]) (rest := [xi 6]) (D' := 6) rfl (Nat.le_of_ble_eq_true rfl) (by decide) rfl ⟨rfl, rfl, rfl⟩ ⟨Nat.le_of_ble_eq_true rfl, rfl, rfl⟩ (Nat.le_of_ble_eq_true rfl) rfl ?_
      refine ex_st 1 (pc' := 3) (ls' := [(0, xr 1012)]) (st' := [xi 1]) rfl ?_
      refine ex_st 1 (pc' := 6) (ls' := [(0, xr 1012)]) (st' := []) rfl ?_
      refine ex_st 3 (pc' := 14) (ls' := [(0, xr 1012)]) (st' := [xi 0]) rfl ?_
      refine ex_ret6 rfl (by omega) (by omega) rfl ?_
      refine ex_ishr rfl ?_
      rw [show z_shr 6 0 = 6 by decide +kernel]
      refine ex_reti rfl rfl ?_
      refine ex_st 1 (pc' := 10) (ls' := [(2, xi 2), (0, xr 85), (1, xr 1012)]) (st' := []) rfl ?_
      refine ex_st 3 (pc' := 13) (ls' := [(2, xi 2), (0, xr 85), (1, xr 1012)]) (st' := [xi 2, xr 1012, xr 85]) rfl ?_
      refine ex_inl (M' := xM_S_charAt) (as := [xr 1012, xi 2]) (rest := [xr 85]) (D' := 7) rfl (Nat.le_of_ble_eq_true rfl) (by decide) rfl ⟨rfl, rfl, rfl⟩ ⟨Nat.le_of_ble_eq_true rfl, rfl, rfl⟩ (Nat.le_of_ble_eq_true rfl) rfl ?_
      refine ex_st 1 (pc' := 1) (ls' := [(0, xr 1012), (1, xi 2)]) (st' := [xr 1012]) rfl ?_
      refine ex_inl (M' := xM_S_isLatin1) (as := [xr 1012]) (rest := []) (D' := 6) rfl (Nat.le_of_ble_eq_true rfl) (by decide) rfl ⟨rfl, rfl, rfl⟩ ⟨Nat.le_of_ble_eq_true rfl, rfl, rfl⟩ (Nat.le_of_ble_eq_true rfl) rfl ?_
      refine ex_st 1 (pc' := 3) (ls' := [(0, xr 1012)]) (st' := [xi 1]) rfl ?_
      refine ex_st 1 (pc' := 6) (ls' := [(0, xr 1012)]) (st' := []) rfl ?_
      refine ex_st 2 (pc' := 10) (ls' := [(0, xr 1012)]) (st' := [xi 0]) rfl ?_
      refine ex_st 1 (pc' := 13) (ls' := [(0, xr 1012)]) (st' := []) rfl ?_
      refine ex_st 2 (pc' := 18) (ls' := [(0, xr 1012)]) (st' := [xi 1]) rfl ?_
      refine ex_retz rfl (Or.inr rfl) rfl ?_
      refine ex_st 1 (pc' := 7) (ls' := [(0, xr 1012), (1, xi 2)]) (st' := []) rfl ?_
      refine ex_st 3 (pc' := 12) (ls' := [(0, xr 1012), (1, xi 2)]) (st' := [xi 2, xr 1022]) rfl ?_
      refine ex_inl (M' := xM_L1_charAt) (as := [xr 1022, xi 2]) (rest := []) (D' := 6) rfl (Nat.le_of_ble_eq_true rfl) (by decide) rfl ⟨rfl, rfl, rfl⟩ ⟨Nat.le_of_ble_eq_true rfl, rfl, rfl⟩ (Nat.le_of_ble_eq_true rfl) rfl ?_
      refine ex_st 3 (pc' := 3) (ls' := [(0, xr 1022), (1, xi 2)]) (st' := [xi 6, xi 2]) rfl ?_
      refine ex_inl (M' := xM_S_checkIndex) (as := [xi 2, xi 6]) (rest := []) (D' := 5) rfl (Nat.le_of_ble_eq_true rfl) (by decide) rfl ⟨rfl, rfl, rfl⟩ ⟨Nat.le_of_ble_eq_true rfl, rfl, rfl⟩ (Nat.le_of_ble_eq_true rfl) rfl ?_
      refine ex_st 3 (pc' := 5) (ls' := [(0, xi 2), (1, xi 6)]) (st' := [xr 1030, xi 6, xi 2]) rfl ?_
      refine ex_inl (M' := xM_Pc_checkIndex) (as := [xi 2, xi 6, xr 1030]) (rest := []) (D' := 4) rfl (Nat.le_of_ble_eq_true rfl) (by decide) rfl ⟨rfl, rfl, rfl⟩ ⟨Nat.le_of_ble_eq_true rfl, rfl, rfl⟩ (Nat.le_of_ble_eq_true rfl) rfl ?_
      refine ex_st 1 (pc' := 1) (ls' := [(0, xi 2), (1, xi 6), (2, xr 1030)]) (st' := [xi 2]) rfl ?_
      refine ex_st 1 (pc' := 4) (ls' := [(0, xi 2), (1, xi 6), (2, xr 1030)]) (st' := []) rfl ?_
      refine ex_st 2 (pc' := 6) (ls' := [(0, xi 2), (1, xi 6), (2, xr 1030)]) (st' := [xi 6, xi 2]) rfl ?_
      refine ex_st 1 (pc' := 16) (ls' := [(0, xi 2), (1, xi 6), (2, xr 1030)]) (st' := []) rfl ?_
      refine ex_st 1 (pc' := 17) (ls' := [(0, xi 2), (1, xi 6), (2, xr 1030)]) (st' := [xi 2]) rfl ?_
      refine ex_reti rfl rfl ?_
      refine ex_st 1 (pc' := 9) (ls' := [(0, xi 2), (1, xi 6)]) (st' := []) rfl ?_
      refine ex_retv rfl rfl ?_
      refine ex_st 2 (pc' := 8) (ls' := [(0, xr 1022), (1, xi 2)]) (st' := [xi 2, xr 1022]) rfl ?_
      refine ex_cbald (v := 111) (j := 2) rfl (by decide) rfl rfl (by decide) (by decide) rfl ?_
      refine ex_st 1 (pc' := 12) (ls' := [(0, xr 1022), (1, xi 2)]) (st' := [xi 255, xi 111]) rfl ?_
      refine ex_iand rfl ?_
      rw [show z_and 111 255 = 111 by decide +kernel]
      refine ex_i2c rfl ?_
      rw [show z_i2c 111 = 111 by decide +kernel]
      refine ex_retc rfl (by omega) (by omega) rfl ?_
      refine ex_retc rfl (by omega) (by omega) rfl ?_
      by_cases k3 : pg n tx (a + 2) = 111
      · have a9 := pg_lt (n := n) (tx := tx) (a := a + 2) (by omega)
        refine ex_callQ (ct_R_skip_y (L := L) tJ2 aJ2 (by omega) (c := 111) (by decide) k3) (by decide) rfl ⟨rfl, rfl, rfl⟩ ⟨Nat.le_of_ble_eq_true rfl, rfl, rfl⟩ (Nat.le_of_ble_eq_true rfl) rfl (fun ra m2 hQ => ?_)
        obtain ⟨rfl, J3, rfl, aJ3, gJ3⟩ := hQ
        have fJ3 : ∀ k j, ¬ (k = 85 ∧ j = 2) → J3 k j = I k j := fun k j hk => by rw [gJ3 k j (by omega), fJ2 k j (by omega)]
        have tJ3 : TXc J3 n tx := hT.fr (fJ3 _ _ (by omega)) (fun j => fJ3 _ _ (by omega))
        refine ex_st 1 (pc' := 24) (ls' := [(2, xi 2), (0, xr 85), (1, xr 1012)]) (st' := []) rfl ?_
        refine ex_st 4 (pc' := 4) (ls' := [(2, xi 3), (0, xr 85), (1, xr 1012)]) (st' := [xr 1012, xi 3]) rfl ?_
        refine ex_inl (M' := xM_S_length) (as := [xr 1012]) (rest := [xi 3]) (D' := 7) rfl (Nat.le_of_ble_eq_true rfl) (by decide) rfl ⟨rfl, rfl, rfl⟩ ⟨Nat.le_of_ble_eq_true rfl, rfl, rfl⟩ (Nat.le_of_ble_eq_true rfl) rfl ?_
        refine ex_st 4 (pc' := 6) (ls' := [(0, xr 1012)]) (st' := [xr 1012, xi 6]) rfl ?_
        refine ex_inl (M' := xM_S_coder) (as := [xr 1012]) (rest := [xi 6]) (D' := 6) rfl (Nat.le_of_ble_eq_true rfl) (by decide) rfl ⟨rfl, rfl, rfl⟩ ⟨Nat.le_of_ble_eq_true rfl, rfl, rfl⟩ (Nat.le_of_ble_eq_true rfl) rfl ?_
        refine ex_st 1 (pc' := 3) (ls' := [(0, xr 1012)]) (st' := [xi 1]) rfl ?_
        refine ex_st 1 (pc' := 6) (ls' := [(0, xr 1012)]) (st' := []) rfl ?_
        refine ex_st 3 (pc' := 14) (ls' := [(0, xr 1012)]) (st' := [xi 0]) rfl ?_
        refine ex_ret6 rfl (by omega) (by omega) rfl ?_
        refine ex_ishr rfl ?_
        rw [show z_shr 6 0 = 6 by decide +kernel]
        refine ex_reti rfl rfl ?_
        refine ex_st 1 (pc' := 10) (ls' := [(2, xi 3), (0, xr 85), (1, xr 1012)]) (st' := []) rfl ?_
        refine ex_st 3 (pc' := 13) (ls' := [(2, xi 3), (0, xr 85), (1, xr 1012)]) (st' := [xi 3, xr 1012, xr 85]) rfl ?_
        refine ex_inl (M' := xM_S_charAt) (as := [xr 1012, xi 3]) (rest := [xr 85]) (D' := 7) rfl (Nat.le_of_ble_eq_true rfl) (by decide) rfl ⟨rfl, rfl, rfl⟩ ⟨Nat.le_of_ble_eq_true rfl, rfl, rfl⟩ (Nat.le_of_ble_eq_true rfl) rfl ?_
        refine ex_st 1 (pc' := 1) (ls' := [(0, xr 1012), (1, xi 3)]) (st' := [xr 1012]) rfl ?_
        refine ex_inl (M' := xM_S_isLatin1) (as := [xr 1012]) (rest := []) (D' := 6) rfl (Nat.le_of_ble_eq_true rfl) (by decide) rfl ⟨rfl, rfl, rfl⟩ ⟨Nat.le_of_ble_eq_true rfl, rfl, rfl⟩ (Nat.le_of_ble_eq_true rfl) rfl ?_
        refine ex_st 1 (pc' := 3) (ls' := [(0, xr 1012)]) (st' := [xi 1]) rfl ?_
        refine ex_st 1 (pc' := 6) (ls' := [(0, xr 1012)]) (st' := []) rfl ?_
        refine ex_st 2 (pc' := 10) (ls' := [(0, xr 1012)]) (st' := [xi 0]) rfl ?_
        refine ex_st 1 (pc' := 13) (ls' := [(0, xr 1012)]) (st' := []) rfl ?_
        refine ex_st 2 (pc' := 18) (ls' := [(0, xr 1012)]) (st' := [xi 1]) rfl ?_
        refine ex_retz rfl (Or.inr rfl) rfl ?_
        refine ex_st 1 (pc' := 7) (ls' := [(0, xr 1012), (1, xi 3)]) (st' := []) rfl ?_
        refine ex_st 3 (pc' := 12) (ls' := [(0, xr 1012), (1, xi 3)]) (st' := [xi 3, xr 1022]) rfl ?_
        refine ex_inl (M' := xM_L1_charAt) (as := [xr 1022, xi 3]) (rest := []) (D' := 6) rfl (Nat.le_of_ble_eq_true rfl) (by decide) rfl ⟨rfl, rfl, rfl⟩ ⟨Nat.le_of_ble_eq_true rfl, rfl, rfl⟩ (Nat.le_of_ble_eq_true rfl) rfl ?_
        refine ex_st 3 (pc' := 3) (ls' := [(0, xr 1022), (1, xi 3)]) (st' := [xi 6, xi 3]) rfl ?_
        refine ex_inl (M' := xM_S_checkIndex) (as := [xi 3, xi 6]) (rest := []) (D' := 5) rfl (Nat.le_of_ble_eq_true rfl) (by decide) rfl ⟨rfl, rfl, rfl⟩ ⟨Nat.le_of_ble_eq_true rfl, rfl, rfl⟩ (Nat.le_of_ble_eq_true rfl) rfl ?_
        refine ex_st 3 (pc' := 5) (ls' := [(0, xi 3), (1, xi 6)]) (st' := [xr 1030, xi 6, xi 3]) rfl ?_
        refine ex_inl (M' := xM_Pc_checkIndex) (as := [xi 3, xi 6, xr 1030]) (rest := []) (D' := 4) rfl (Nat.le_of_ble_eq_true rfl) (by decide) rfl ⟨rfl, rfl, rfl⟩ ⟨Nat.le_of_ble_eq_true rfl, rfl, rfl⟩ (Nat.le_of_ble_eq_true rfl) rfl ?_
        refine ex_st 1 (pc' := 1) (ls' := [(0, xi 3), (1, xi 6), (2, xr 1030)]) (st' := [xi 3]) rfl ?_
        refine ex_st 1 (pc' := 4) (ls' := [(0, xi 3), (1, xi 6), (2, xr 1030)]) (st' := []) rfl ?_
        refine ex_st 2 (pc' := 6) (ls' := [(0, xi 3), (1, xi 6), (2, xr 1030)]) (st' := [xi 6, xi 3]) rfl ?_
        refine ex_st 1 (pc' := 16) (ls' := [(0, xi 3), (1, xi 6), (2, xr 1030)]) (st' := []) rfl ?_
        refine ex_st 1 (pc' := 17) (ls' := [(0, xi 3), (1, xi 6), (2, xr 1030)]) (st' := [xi 3]) rfl ?_
        refine ex_reti rfl rfl ?_
        refine ex_st 1 (pc' := 9) (ls' := [(0, xi 3), (1, xi 6)]) (st' := []) rfl ?_
        refine ex_retv rfl rfl ?_
        refine ex_st 2 (pc' := 8) (ls' := [(0, xr 1022), (1, xi 3)]) (st' := [xi 3, xr 1022]) rfl ?_
        refine ex_cbald (v := 116) (j := 3) rfl (by decide) rfl rfl (by decide) (by decide) rfl ?_
        refine ex_st 1 (pc' := 12) (ls' := [(0, xr 1022), (1, xi 3)]) (st' := [xi 255, xi 116]) rfl ?_
        refine ex_iand rfl ?_
        rw [show z_and 116 255 = 116 by decide +kernel]
        refine ex_i2c rfl ?_
        rw [show z_i2c 116 = 116 by decide +kernel]
        refine ex_retc rfl (by omega) (by omega) rfl ?_
        refine ex_retc rfl (by omega) (by omega) rfl ?_
        by_cases k4 : pg n tx (a + 3) = 116
        · have a9 := pg_lt (n := n) (tx := tx) (a := a + 3) (by omega)
          refine ex_callQ (ct_R_skip_y (L := L) tJ3 aJ3 (by omega) (c := 116) (by decide) k4) (by decide) rfl ⟨rfl, rfl, rfl⟩ ⟨Nat.le_of_ble_eq_true rfl, rfl, rfl⟩ (Nat.le_of_ble_eq_true rfl) rfl (fun ra m2 hQ => ?_)
          obtain ⟨rfl, J4, rfl, aJ4, gJ4⟩ := hQ
          have fJ4 : ∀ k j, ¬ (k = 85 ∧ j = 2) → J4 k j = I k j := fun k j hk => by rw [gJ4 k j (by omega), fJ3 k j (by omega)]
          have tJ4 : TXc J4 n tx := hT.fr (fJ4 _ _ (by omega)) (fun j => fJ4 _ _ (by omega))
          refine ex_st 1 (pc' := 24) (ls' := [(2, xi 3), (0, xr 85), (1, xr 1012)]) (st' := []) rfl ?_
          refine ex_st 4 (pc' := 4) (ls' := [(2, xi 4), (0, xr 85), (1, xr 1012)]) (st' := [xr 1012, xi 4]) rfl ?_
          refine ex_inl (M' := xM_S_length) (as := [xr 1012]) (rest := [xi 4]) (D' := 7) rfl (Nat.le_of_ble_eq_true rfl) (by decide) rfl ⟨rfl, rfl, rfl⟩ ⟨Nat.le_of_ble_eq_true rfl, rfl, rfl⟩ (Nat.le_of_ble_eq_true rfl) rfl ?_
          refine ex_st 4 (pc' := 6) (ls' := [(0, xr 1012)]) (st' := [xr 1012, xi 6]) rfl ?_
          refine ex_inl (M' := xM_S_coder) (as := [xr 1012]) (rest := [xi 6]) (D' := 6) rfl (Nat.le_of_ble_eq_true rfl) (by decide) rfl ⟨rfl, rfl, rfl⟩ ⟨Nat.le_of_ble_eq_true rfl, rfl, rfl⟩ (Nat.le_of_ble_eq_true rfl) rfl ?_
          refine ex_st 1 (pc' := 3) (ls' := [(0, xr 1012)]) (st' := [xi 1]) rfl ?_
          refine ex_st 1 (pc' := 6) (ls' := [(0, xr 1012)]) (st' := []) rfl ?_
          refine ex_st 3 (pc' := 14) (ls' := [(0, xr 1012)]) (st' := [xi 0]) rfl ?_
          refine ex_ret6 rfl (by omega) (by omega) rfl ?_
          refine ex_ishr rfl ?_
          rw [show z_shr 6 0 = 6 by decide +kernel]
          refine ex_reti rfl rfl ?_
          refine ex_st 1 (pc' := 10) (ls' := [(2, xi 4), (0, xr 85), (1, xr 1012)]) (st' := []) rfl ?_
          refine ex_st 3 (pc' := 13) (ls' := [(2, xi 4), (0, xr 85), (1, xr 1012)]) (st' := [xi 4, xr 1012, xr 85]) rfl ?_
          refine ex_inl (M' := xM_S_charAt) (as := [xr 1012, xi 4]) (rest := [xr 85]) (D' := 7) rfl (Nat.le_of_ble_eq_true rfl) (by decide) rfl ⟨rfl, rfl, rfl⟩ ⟨Nat.le_of_ble_eq_true rfl, rfl, rfl⟩ (Nat.le_of_ble_eq_true rfl) rfl ?_
          refine ex_st 1 (pc' := 1) (ls' := [(0, xr 1012), (1, xi 4)]) (st' := [xr 1012]) rfl ?_
          refine ex_inl (M' := xM_S_isLatin1) (as := [xr 1012]) (rest := []) (D' := 6) rfl (Nat.le_of_ble_eq_true rfl) (by decide) rfl ⟨rfl, rfl, rfl⟩ ⟨Nat.le_of_ble_eq_true rfl, rfl, rfl⟩ (Nat.le_of_ble_eq_true rfl) rfl ?_
          refine ex_st 1 (pc' := 3) (ls' := [(0, xr 1012)]) (st' := [xi 1]) rfl ?_
          refine ex_st 1 (pc' := 6) (ls' := [(0, xr 1012)]) (st' := []) rfl ?_
          refine ex_st 2 (pc' := 10) (ls' := [(0, xr 1012)]) (st' := [xi 0]) rfl ?_
          refine ex_st 1 (pc' := 13) (ls' := [(0, xr 1012)]) (st' := []) rfl ?_
          refine ex_st 2 (pc' := 18) (ls' := [(0, xr 1012)]) (st' := [xi 1]) rfl ?_
          refine ex_retz rfl (Or.inr rfl) rfl ?_
          refine ex_st 1 (pc' := 7) (ls' := [(0, xr 1012), (1, xi 4)]) (st' := []) rfl ?_
          refine ex_st 3 (pc' := 12) (ls' := [(0, xr 1012), (1, xi 4)]) (st' := [xi 4, xr 1022]) rfl ?_
          refine ex_inl (M' := xM_L1_charAt) (as := [xr 1022, xi 4]) (rest := []) (D' := 6) rfl (Nat.le_of_ble_eq_true rfl) (by decide) rfl ⟨rfl, rfl, rfl⟩ ⟨Nat.le_of_ble_eq_true rfl, rfl, rfl⟩ (Nat.le_of_ble_eq_true rfl) rfl ?_
          refine ex_st 3 (pc' := 3) (ls' := [(0, xr 1022), (1, xi 4)]) (st' := [xi 6, xi 4]) rfl ?_
          refine ex_inl (M' := xM_S_checkIndex) (as := [xi 4, xi 6]) (rest := []) (D' := 5) rfl (Nat.le_of_ble_eq_true rfl) (by decide) rfl ⟨rfl, rfl, rfl⟩ ⟨Nat.le_of_ble_eq_true rfl, rfl, rfl⟩ (Nat.le_of_ble_eq_true rfl) rfl ?_
          refine ex_st 3 (pc' := 5) (ls' := [(0, xi 4), (1, xi 6)]) (st' := [xr 1030, xi 6, xi 4]) rfl ?_
          refine ex_inl (M' := xM_Pc_checkIndex) (as := [xi 4, xi 6, xr 1030]) (rest := []) (D' := 4) rfl (Nat.le_of_ble_eq_true rfl) (by decide) rfl ⟨rfl, rfl, rfl⟩ ⟨Nat.le_of_ble_eq_true rfl, rfl, rfl⟩ (Nat.le_of_ble_eq_true rfl) rfl ?_
          refine ex_st 1 (pc' := 1) (ls' := [(0, xi 4), (1, xi 6), (2, xr 1030)]) (st' := [xi 4]) rfl ?_
          refine ex_st 1 (pc' := 4) (ls' := [(0, xi 4), (1, xi 6), (2, xr 1030)]) (st' := []) rfl ?_
          refine ex_st 2 (pc' := 6) (ls' := [(0, xi 4), (1, xi 6), (2, xr 1030)]) (st' := [xi 6, xi 4]) rfl ?_
          refine ex_st 1 (pc' := 16) (ls' := [(0, xi 4), (1, xi 6), (2, xr 1030)]) (st' := []) rfl ?_
          refine ex_st 1 (pc' := 17) (ls' := [(0, xi 4), (1, xi 6), (2, xr 1030)]) (st' := [xi 4]) rfl ?_
          refine ex_reti rfl rfl ?_
          refine ex_st 1 (pc' := 9) (ls' := [(0, xi 4), (1, xi 6)]) (st' := []) rfl ?_
          refine ex_retv rfl rfl ?_
          refine ex_st 2 (pc' := 8) (ls' := [(0, xr 1022), (1, xi 4)]) (st' := [xi 4, xr 1022]) rfl ?_
          refine ex_cbald (v := 97) (j := 4) rfl (by decide) rfl rfl (by decide) (by decide) rfl ?_
          refine ex_st 1 (pc' := 12) (ls' := [(0, xr 1022), (1, xi 4)]) (st' := [xi 255, xi 97]) rfl ?_
          refine ex_iand rfl ?_
          rw [show z_and 97 255 = 97 by decide +kernel]
          refine ex_i2c rfl ?_
          rw [show z_i2c 97 = 97 by decide +kernel]
          refine ex_retc rfl (by omega) (by omega) rfl ?_
          refine ex_retc rfl (by omega) (by omega) rfl ?_
          by_cases k5 : pg n tx (a + 4) = 97
          · have a9 := pg_lt (n := n) (tx := tx) (a := a + 4) (by omega)
            refine ex_callQ (ct_R_skip_y (L := L) tJ4 aJ4 (by omega) (c := 97) (by decide) k5) (by decide) rfl ⟨rfl, rfl, rfl⟩ ⟨Nat.le_of_ble_eq_true rfl, rfl, rfl⟩ (Nat.le_of_ble_eq_true rfl) rfl (fun ra m2 hQ => ?_)
            obtain ⟨rfl, J5, rfl, aJ5, gJ5⟩ := hQ
            have fJ5 : ∀ k j, ¬ (k = 85 ∧ j = 2) → J5 k j = I k j := fun k j hk => by rw [gJ5 k j (by omega), fJ4 k j (by omega)]
            have tJ5 : TXc J5 n tx := hT.fr (fJ5 _ _ (by omega)) (fun j => fJ5 _ _ (by omega))
            refine ex_st 1 (pc' := 24) (ls' := [(2, xi 4), (0, xr 85), (1, xr 1012)]) (st' := []) rfl ?_
            refine ex_st 4 (pc' := 4) (ls' := [(2, xi 5), (0, xr 85), (1, xr 1012)]) (st' := [xr 1012, xi 5]) rfl ?_
            refine ex_inl (M' := xM_S_length) (as := [xr 1012]) (rest := [xi 5]) (D' := 7) rfl (Nat.le_of_ble_eq_true rfl) (by decide) rfl ⟨rfl, rfl, rfl⟩ ⟨Nat.le_of_ble_eq_true rfl, rfl, rfl⟩ (Nat.le_of_ble_eq_true rfl) rfl ?_
            refine ex_st 4 (pc' := 6) (ls' := [(0, xr 1012)]) (st' := [xr 1012, xi 6]) rfl ?_
            refine ex_inl (M' := xM_S_coder) (as := [xr 1012]) (rest := [xi 6]) (D' := 6) rfl (Nat.le_of_ble_eq_true rfl) (by decide) rfl ⟨rfl, rfl, rfl⟩ ⟨Nat.le_of_ble_eq_true rfl, rfl, rfl⟩ (Nat.le_of_ble_eq_true rfl) rfl ?_
            refine ex_st 1 (pc' := 3) (ls' := [(0, xr 1012)]) (st' := [xi 1]) rfl ?_
            refine ex_st 1 (pc' := 6) (ls' := [(0, xr 1012)]) (st' := []) rfl ?_
            refine ex_st 3 (pc' := 14) (ls' := [(0, xr 1012)]) (st' := [xi 0]) rfl ?_
            refine ex_ret6 rfl (by omega) (by omega) rfl ?_
            refine ex_ishr rfl ?_
            rw [show z_shr 6 0 = 6 by decide +kernel]
            refine ex_reti rfl rfl ?_
            refine ex_st 1 (pc' := 10) (ls' := [(2, xi 5), (0, xr 85), (1, xr 1012)]) (st' := []) rfl ?_
            refine ex_st 3 (pc' := 13) (ls' := [(2, xi 5), (0, xr 85), (1, xr 1012)]) (st' := [xi 5, xr 1012, xr 85]) rfl ?_
            refine ex_inl (M' := xM_S_charAt) (as := [xr 1012, xi 5]) (rest := [xr 85]) (D' := 7) rfl (Nat.le_of_ble_eq_true rfl) (by decide) rfl ⟨rfl, rfl, rfl⟩ ⟨Nat.le_of_ble_eq_true rfl, rfl, rfl⟩ (Nat.le_of_ble_eq_true rfl) rfl ?_
            refine ex_st 1 (pc' := 1) (ls' := [(0, xr 1012), (1, xi 5)]) (st' := [xr 1012]) rfl ?_
            refine ex_inl (M' := xM_S_isLatin1) (as := [xr 1012]) (rest := []) (D' := 6) rfl (Nat.le_of_ble_eq_true rfl) (by decide) rfl ⟨rfl, rfl, rfl⟩ ⟨Nat.le_of_ble_eq_true rfl, rfl, rfl⟩ (Nat.le_of_ble_eq_true rfl) rfl ?_
            refine ex_st 1 (pc' := 3) (ls' := [(0, xr 1012)]) (st' := [xi 1]) rfl ?_
            refine ex_st 1 (pc' := 6) (ls' := [(0, xr 1012)]) (st' := []) rfl ?_
            refine ex_st 2 (pc' := 10) (ls' := [(0, xr 1012)]) (st' := [xi 0]) rfl ?_
            refine ex_st 1 (pc' := 13) (ls' := [(0, xr 1012)]) (st' := []) rfl ?_
            refine ex_st 2 (pc' := 18) (ls' := [(0, xr 1012)]) (st' := [xi 1]) rfl ?_
            refine ex_retz rfl (Or.inr rfl) rfl ?_
            refine ex_st 1 (pc' := 7) (ls' := [(0, xr 1012), (1, xi 5)]) (st' := []) rfl ?_
            refine ex_st 3 (pc' := 12) (ls' := [(0, xr 1012), (1, xi 5)]) (st' := [xi 5, xr 1022]) rfl ?_
            refine ex_inl (M' := xM_L1_charAt) (as := [xr 1022, xi 5]) (rest := []) (D' := 6) rfl (Nat.le_of_ble_eq_true rfl) (by decide) rfl ⟨rfl, rfl, rfl⟩ ⟨Nat.le_of_ble_eq_true rfl, rfl, rfl⟩ (Nat.le_of_ble_eq_true rfl) rfl ?_
            refine ex_st 3 (pc' := 3) (ls' := [(0, xr 1022), (1, xi 5)]) (st' := [xi 6, xi 5]) rfl ?_
            refine ex_inl (M' := xM_S_checkIndex) (as := [xi 5, xi 6]) (rest := []) (D' := 5) rfl (Nat.le_of_ble_eq_true rfl) (by decide) rfl ⟨rfl, rfl, rfl⟩ ⟨Nat.le_of_ble_eq_true rfl, rfl, rfl⟩ (Nat.le_of_ble_eq_true rfl) rfl ?_
            refine ex_st 3 (pc' := 5) (ls' := [(0, xi 5), (1, xi 6)]) (st' := [xr 1030, xi 6, xi 5]) rfl ?_
            refine ex_inl (M' := xM_Pc_checkIndex) (as := [xi 5, xi 6, xr 1030]) (rest := []) (D' := 4) rfl (Nat.le_of_ble_eq_true rfl) (by decide) rfl ⟨rfl, rfl, rfl⟩ ⟨Nat.le_of_ble_eq_true rfl, rfl, rfl⟩ (Nat.le_of_ble_eq_true rfl) rfl ?_
            refine ex_st 1 (pc' := 1) (ls' := [(0, xi 5), (1, xi 6), (2, xr 1030)]) (st' := [xi 5]) rfl ?_
            refine ex_st 1 (pc' := 4) (ls' := [(0, xi 5), (1, xi 6), (2, xr 1030)]) (st' := []) rfl ?_
            refine ex_st 2 (pc' := 6) (ls' := [(0, xi 5), (1, xi 6), (2, xr 1030)]) (st' := [xi 6, xi 5]) rfl ?_
            refine ex_st 1 (pc' := 16) (ls' := [(0, xi 5), (1, xi 6), (2, xr 1030)]) (st' := []) rfl ?_
            refine ex_st 1 (pc' := 17) (ls' := [(0, xi 5), (1, xi 6), (2, xr 1030)]) (st' := [xi 5]) rfl ?_
            refine ex_reti rfl rfl ?_
            refine ex_st 1 (pc' := 9) (ls' := [(0, xi 5), (1, xi 6)]) (st' := []) rfl ?_
            refine ex_retv rfl rfl ?_
            refine ex_st 2 (pc' := 8) (ls' := [(0, xr 1022), (1, xi 5)]) (st' := [xi 5, xr 1022]) rfl ?_
            refine ex_cbald (v := 32) (j := 5) rfl (by decide) rfl rfl (by decide) (by decide) rfl ?_
            refine ex_st 1 (pc' := 12) (ls' := [(0, xr 1022), (1, xi 5)]) (st' := [xi 255, xi 32]) rfl ?_
            refine ex_iand rfl ?_
            rw [show z_and 32 255 = 32 by decide +kernel]
            refine ex_i2c rfl ?_
            rw [show z_i2c 32 = 32 by decide +kernel]
            refine ex_retc rfl (by omega) (by omega) rfl ?_
            refine ex_retc rfl (by omega) (by omega) rfl ?_
            by_cases k6 : pg n tx (a + 5) = 32
            · have a9 := pg_lt (n := n) (tx := tx) (a := a + 5) (by omega)
              refine ex_callQ (ct_R_skip_y (L := L) tJ5 aJ5 (by omega) (c := 32) (by decide) k6) (by decide) rfl ⟨rfl, rfl, rfl⟩ ⟨Nat.le_of_ble_eq_true rfl, rfl, rfl⟩ (Nat.le_of_ble_eq_true rfl) rfl (fun ra m2 hQ => ?_)
              obtain ⟨rfl, J6, rfl, aJ6, gJ6⟩ := hQ
              have fJ6 : ∀ k j, ¬ (k = 85 ∧ j = 2) → J6 k j = I k j := fun k j hk => by rw [gJ6 k j (by omega), fJ5 k j (by omega)]
              have tJ6 : TXc J6 n tx := hT.fr (fJ6 _ _ (by omega)) (fun j => fJ6 _ _ (by omega))
              refine ex_st 1 (pc' := 24) (ls' := [(2, xi 5), (0, xr 85), (1, xr 1012)]) (st' := []) rfl ?_
              refine ex_st 4 (pc' := 4) (ls' := [(2, xi 6), (0, xr 85), (1, xr 1012)]) (st' := [xr 1012, xi 6]) rfl ?_
              refine ex_inl (M' := xM_S_length) (as := [xr 1012]) (rest := [xi 6]) (D' := 7) rfl (Nat.le_of_ble_eq_true rfl) (by decide) rfl ⟨rfl, rfl, rfl⟩ ⟨Nat.le_of_ble_eq_true rfl, rfl, rfl⟩ (Nat.le_of_ble_eq_true rfl) rfl ?_
              refine ex_st 4 (pc' := 6) (ls' := [(0, xr 1012)]) (st' := [xr 1012, xi 6]) rfl ?_
              refine ex_inl (M' := xM_S_coder) (as := [xr 1012]) (rest := [xi 6]) (D' := 6) rfl (Nat.le_of_ble_eq_true rfl) (by decide) rfl ⟨rfl, rfl, rfl⟩ ⟨Nat.le_of_ble_eq_true rfl, rfl, rfl⟩ (Nat.le_of_ble_eq_true rfl) rfl ?_
              refine ex_st 1 (pc' := 3) (ls' := [(0, xr 1012)]) (st' := [xi 1]) rfl ?_
              refine ex_st 1 (pc' := 6) (ls' := [(0, xr 1012)]) (st' := []) rfl ?_
              refine ex_st 3 (pc' := 14) (ls' := [(0, xr 1012)]) (st' := [xi 0]) rfl ?_
              refine ex_ret6 rfl (by omega) (by omega) rfl ?_
              refine ex_ishr rfl ?_
              rw [show z_shr 6 0 = 6 by decide +kernel]
              refine ex_reti rfl rfl ?_
              refine ex_st 1 (pc' := 30) (ls' := [(2, xi 6), (0, xr 85), (1, xr 1012)]) (st' := []) rfl ?_
              refine ex_st 1 (pc' := 31) (ls' := [(2, xi 6), (0, xr 85), (1, xr 1012)]) (st' := [xi 1]) rfl ?_
              refine ex_retz rfl (Or.inr rfl) rfl ?_
              have e9 : p_w n tx [113, 117, 111, 116, 97, 32] a = (a + 6, true) := by simp only [p_w]; rw [if_pos k1, if_pos k2, if_pos k3, if_pos k4, if_pos k5, if_pos k6]
              rw [e9]
              exact ⟨rfl, J6, rfl, aJ6, fJ6, by show a + 6 ≤ n; omega⟩
            · refine ex_call (ct_R_skip_n (L := L) tJ5 aJ5 (by omega) (c := 32) (by decide) k6) (by decide) rfl ⟨rfl, rfl, rfl⟩ ⟨Nat.le_of_ble_eq_true rfl, rfl, rfl⟩ (Nat.le_of_ble_eq_true rfl) rfl ?_
              refine ex_st 1 (pc' := 22) (ls' := [(2, xi 5), (0, xr 85), (1, xr 1012)]) (st' := []) rfl ?_
              refine ex_st 1 (pc' := 23) (ls' := [(2, xi 5), (0, xr 85), (1, xr 1012)]) (st' := [xi 0]) rfl ?_
              refine ex_retz rfl (Or.inl rfl) rfl ?_
              have e9 : p_w n tx [113, 117, 111, 116, 97, 32] a = (a + 5, false) := by simp only [p_w]; rw [if_pos k1, if_pos k2, if_pos k3, if_pos k4, if_pos k5, if_neg k6]
              rw [e9]
              exact ⟨rfl, J5, rfl, aJ5, fJ5, by show a + 5 ≤ n; omega⟩
          · refine ex_call (ct_R_skip_n (L := L) tJ4 aJ4 (by omega) (c := 97) (by decide) k5) (by decide) rfl ⟨rfl, rfl, rfl⟩ ⟨Nat.le_of_ble_eq_true rfl, rfl, rfl⟩ (Nat.le_of_ble_eq_true rfl) rfl ?_
            refine ex_st 1 (pc' := 22) (ls' := [(2, xi 4), (0, xr 85), (1, xr 1012)]) (st' := []) rfl ?_
            refine ex_st 1 (pc' := 23) (ls' := [(2, xi 4), (0, xr 85), (1, xr 1012)]) (st' := [xi 0]) rfl ?_
            refine ex_retz rfl (Or.inl rfl) rfl ?_
            have e9 : p_w n tx [113, 117, 111, 116, 97, 32] a = (a + 4, false) := by simp only [p_w]; rw [if_pos k1, if_pos k2, if_pos k3, if_pos k4, if_neg k5]
            rw [e9]
            exact ⟨rfl, J4, rfl, aJ4, fJ4, by show a + 4 ≤ n; omega⟩
        · refine ex_call (ct_R_skip_n (L := L) tJ3 aJ3 (by omega) (c := 116) (by decide) k4) (by decide) rfl ⟨rfl, rfl, rfl⟩ ⟨Nat.le_of_ble_eq_true rfl, rfl, rfl⟩ (Nat.le_of_ble_eq_true rfl) rfl ?_
          refine ex_st 1 (pc' := 22) (ls' := [(2, xi 3), (0, xr 85), (1, xr 1012)]) (st' := []) rfl ?_
          refine ex_st 1 (pc' := 23) (ls' := [(2, xi 3), (0, xr 85), (1, xr 1012)]) (st' := [xi 0]) rfl ?_
          refine ex_retz rfl (Or.inl rfl) rfl ?_
          have e9 : p_w n tx [113, 117, 111, 116, 97, 32] a = (a + 3, false) := by simp only [p_w]; rw [if_pos k1, if_pos k2, if_pos k3, if_neg k4]
          rw [e9]
          exact ⟨rfl, J3, rfl, aJ3, fJ3, by show a + 3 ≤ n; omega⟩
      · refine ex_call (ct_R_skip_n (L := L) tJ2 aJ2 (by omega) (c := 111) (by decide) k3) (by decide) rfl ⟨rfl, rfl, rfl⟩ ⟨Nat.le_of_ble_eq_true rfl, rfl, rfl⟩ (Nat.le_of_ble_eq_true rfl) rfl ?_
        refine ex_st 1 (pc' := 22) (ls' := [(2, xi 2), (0, xr 85), (1, xr 1012)]) (st' := []) rfl ?_
        refine ex_st 1 (pc' := 23) (ls' := [(2, xi 2), (0, xr 85), (1, xr 1012)]) (st' := [xi 0]) rfl ?_
        refine ex_retz rfl (Or.inl rfl) rfl ?_
        have e9 : p_w n tx [113, 117, 111, 116, 97, 32] a = (a + 2, false) := by simp only [p_w]; rw [if_pos k1, if_pos k2, if_neg k3]
        rw [e9]
        exact ⟨rfl, J2, rfl, aJ2, fJ2, by show a + 2 ≤ n; omega⟩
    · refine ex_call (ct_R_skip_n (L := L) tJ1 aJ1 (by omega) (c := 117) (by decide) k2) (by decide) rfl ⟨rfl, rfl, rfl⟩ ⟨Nat.le_of_ble_eq_true rfl, rfl, rfl⟩ (Nat.le_of_ble_eq_true rfl) rfl ?_
      refine ex_st 1 (pc' := 22) (ls' := [(2, xi 1), (0, xr 85), (1, xr 1012)]) (st' := []) rfl ?_
      refine ex_st 1 (pc' := 23) (ls' := [(2, xi 1), (0, xr 85), (1, xr 1012)]) (st' := [xi 0]) rfl ?_
      refine ex_retz rfl (Or.inl rfl) rfl ?_
      have e9 : p_w n tx [113, 117, 111, 116, 97, 32] a = (a + 1, false) := by simp only [p_w]; rw [if_pos k1, if_neg k2]
      rw [e9]
      exact ⟨rfl, J1, rfl, aJ1, fJ1, by show a + 1 ≤ n; omega⟩
  · refine ex_call (ct_R_skip_n (L := L) hT ha (by omega) (c := 113) (by decide) k1) (by decide) rfl ⟨rfl, rfl, rfl⟩ ⟨Nat.le_of_ble_eq_true rfl, rfl, rfl⟩ (Nat.le_of_ble_eq_true rfl) rfl ?_
    refine ex_st 1 (pc' := 22) (ls' := [(2, xi 0), (0, xr 85), (1, xr 1012)]) (st' := []) rfl ?_
    refine ex_st 1 (pc' := 23) (ls' := [(2, xi 0), (0, xr 85), (1, xr 1012)]) (st' := [xi 0]) rfl ?_
    refine ex_retz rfl (Or.inl rfl) rfl ?_
    have e9 : p_w n tx [113, 117, 111, 116, 97, 32] a = (a, false) := by simp only [p_w]; rw [if_neg k1]
    rw [e9]
    exact ⟨rfl, I, rfl, ha, (fun _ _ _ => rfl), by show a ≤ n; omega⟩
theorem ct_R_readNumber {sc : List Int} {I : Nat → Nat → Int} {L : Nat → Nat → Int64} {n : Nat} {tx : Nat → Nat} (hT : TXc I n tx) {a : Nat} (ha : I 85 2 = (a : Int)) (han : a ≤ n) : x_CQ sc 4 xN_R_readNumber [xr 85] (xSH, I, L) (fun r m' => r = some (xi (p_nm n tx a)) ∧ ∃ I', m' = (xSH, I', L) ∧ I' 85 2 = ((p_na n tx a : Nat) : Int) ∧ ∀ k j, ¬ (k = 85 ∧ j = 2) → I' k j = I k j) := by
  have hn100 := hT.2.1
  refine x_CQ.of (M := xM_R_readNumber) rfl (Nat.le_of_ble_eq_true rfl) ?_
  refine ex_st 6 (pc' := 6) (ls' := [(2, xi 0), (1, xi (-1)), (0, xr 85)]) (st' := [xi 2, xi 0]) rfl ?_
  refine ex_st 1 (pc' := 9) (ls' := [(2, xi 0), (1, xi (-1)), (0, xr 85)]) (st' := []) rfl ?_
  refine ex_st 3 (pc' := 14) (ls' := [(2, xi 0), (1, xi (-1)), (0, xr 85)]) (st' := [xi (I 85 2), xr 85]) rfl ?_
  rw [ha]
  have l0 := hT.lt (a)
  refine ex_call (ct_R_signAt (L := L) hT (p := a) (by omega)) (by decide) rfl ⟨rfl, rfl, rfl⟩ ⟨Nat.le_of_ble_eq_true rfl, rfl, rfl⟩ (Nat.le_of_ble_eq_true rfl) rfl ?_
  refine ex_st 3 (pc' := 21) (ls' := [(3, xi (↑(pg n tx (a)))), (2, xi 0), (1, xi (-1)), (0, xr 85)]) (st' := [xi 48, xi (↑(pg n tx (a)))]) rfl ?_
  refine ex_ic rfl (by first | omega | (constructor <;> omega) | assumption | exact x_bR _) (by decide) (fun (h0 : (↑(pg n tx (a)) : Int) < 48) => ?_) (fun (h0 : ¬ (↑(pg n tx (a)) : Int) < 48) => ?_)
  · refine ex_st 1 (pc' := 31) (ls' := [(3, xi (↑(pg n tx (a)))), (2, xi 0), (1, xi (-1)), (0, xr 85)]) (st' := [xi (-1)]) rfl ?_
    refine ex_reti rfl rfl ?_
    have e9 : p_nm n tx a = -1 ∧ p_na n tx a = a := by
      unfold p_nm p_na
      rw [if_neg (by unfold p_dg; simp; omega), if_neg (by unfold p_dg; simp; omega)]; exact ⟨rfl, rfl⟩
    rw [e9.1, e9.2]
    exact ⟨rfl, I, rfl, ha, (fun _ _ _ => rfl)⟩
  · refine ex_st 2 (pc' := 27) (ls' := [(3, xi (↑(pg n tx (a)))), (2, xi 0), (1, xi (-1)), (0, xr 85)]) (st' := [xi 57, xi (↑(pg n tx (a)))]) rfl ?_
    refine ex_ic rfl (by first | omega | (constructor <;> omega) | assumption | exact x_bR _) (by decide) (fun (h1 : (↑(pg n tx (a)) : Int) ≤ 57) => ?_) (fun (h1 : ¬ (↑(pg n tx (a)) : Int) ≤ 57) => ?_)
    · refine ex_st 3 (pc' := 36) (ls' := [(3, xi (↑(pg n tx (a)))), (2, xi 0), (1, xi (-1)), (0, xr 85)]) (st' := [xi 0, xi (-1), xi 10]) rfl ?_
      refine ex_max rfl (by decide) (by decide) (by decide) ?_
      rw [show (if (-1 : Int) < 0 then (0 : Int) else -1) = 0 by decide]
      refine ex_st 9 (pc' := 51) (ls' := [(1, xi ((0 + (↑(pg n tx (a)))) - 48)), (3, xi (↑(pg n tx (a)))), (2, xi 0), (0, xr 85)]) (st' := [xi (I 85 2), xr 85]) rfl ?_
      rw [ha]
      refine ex_st 2 (pc' := 53) (ls' := [(1, xi ((0 + (↑(pg n tx (a)))) - 48)), (3, xi (↑(pg n tx (a)))), (2, xi 0), (0, xr 85)]) (st' := [xi ((↑a) + 1), xr 85]) rfl ?_
      refine ex_pfi rfl (by decide) (rfl : xSH[85]? = some _) (by decide) rfl (by decide) (fun h => by cases h) ?_
      generalize hMJ1 : (x_up I 85 2 ((↑a) + 1)) = J1
      have aJ1 : J1 85 2 = ((a + 1 : Nat) : Int) := by rw [← hMJ1, x_up_at]; rfl
      have gJ1 : ∀ k j, ¬ (k = 85 ∧ j = 2) → J1 k j = I k j := fun k j hk => by rw [← hMJ1]; exact x_up_far hk
      have fJ1 : ∀ k j, ¬ (k = 85 ∧ j = 2) → J1 k j = I k j := fun k j hk => by rw [gJ1 k j (by omega)]
      have tJ1 : TXc J1 n tx := hT.fr (fJ1 _ _ (by omega)) (fun j => fJ1 _ _ (by omega))
      refine ex_st 4 (pc' := 6) (ls' := [(2, xi 1), (1, xi ((0 + (↑(pg n tx (a)))) - 48)), (3, xi (↑(pg n tx (a)))), (0, xr 85)]) (st' := [xi 2, xi 1]) rfl ?_
      refine ex_st 1 (pc' := 9) (ls' := [(2, xi 1), (1, xi ((0 + (↑(pg n tx (a)))) - 48)), (3, xi (↑(pg n tx (a)))), (0, xr 85)]) (st' := []) rfl ?_
      refine ex_st 3 (pc' := 14) (ls' := [(2, xi 1), (1, xi ((0 + (↑(pg n tx (a)))) - 48)), (3, xi (↑(pg n tx (a)))), (0, xr 85)]) (st' := [xi (J1 85 2), xr 85]) rfl ?_
      rw [aJ1]
      have l1 := hT.lt (a + 1)
      refine ex_call (ct_R_signAt (L := L) tJ1 (p := a + 1) (by omega)) (by decide) rfl ⟨rfl, rfl, rfl⟩ ⟨Nat.le_of_ble_eq_true rfl, rfl, rfl⟩ (Nat.le_of_ble_eq_true rfl) rfl ?_
      refine ex_st 3 (pc' := 21) (ls' := [(3, xi (↑(pg n tx (a + 1)))), (2, xi 1), (1, xi ((0 + (↑(pg n tx (a)))) - 48)), (0, xr 85)]) (st' := [xi 48, xi (↑(pg n tx (a + 1)))]) rfl ?_
      refine ex_ic rfl (by first | omega | (constructor <;> omega) | assumption | exact x_bR _) (by decide) (fun (h2 : (↑(pg n tx (a + 1)) : Int) < 48) => ?_) (fun (h2 : ¬ (↑(pg n tx (a + 1)) : Int) < 48) => ?_)
      · refine ex_st 1 (pc' := 31) (ls' := [(3, xi (↑(pg n tx (a + 1)))), (2, xi 1), (1, xi ((0 + (↑(pg n tx (a)))) - 48)), (0, xr 85)]) (st' := [xi ((0 + (↑(pg n tx (a)))) - 48)]) rfl ?_
        refine ex_reti rfl rfl ?_
        have e9 : p_nm n tx a = (0 + (↑(pg n tx (a)))) - 48 ∧ p_na n tx a = a + 1 := by
          unfold p_nm p_na
          have d1 : p_dg (pg n tx a) = true := by unfold p_dg; exact decide_eq_true ⟨by omega, by omega⟩
          rw [if_pos d1, if_pos d1, if_neg (by unfold p_dg; simp; omega), if_neg (by unfold p_dg; simp; omega)]; exact ⟨by omega, rfl⟩
        rw [e9.1, e9.2]
        exact ⟨rfl, J1, rfl, aJ1, fJ1⟩
      · refine ex_st 2 (pc' := 27) (ls' := [(3, xi (↑(pg n tx (a + 1)))), (2, xi 1), (1, xi ((0 + (↑(pg n tx (a)))) - 48)), (0, xr 85)]) (st' := [xi 57, xi (↑(pg n tx (a + 1)))]) rfl ?_
        refine ex_ic rfl (by first | omega | (constructor <;> omega) | assumption | exact x_bR _) (by decide) (fun (h3 : (↑(pg n tx (a + 1)) : Int) ≤ 57) => ?_) (fun (h3 : ¬ (↑(pg n tx (a + 1)) : Int) ≤ 57) => ?_)
        · refine ex_st 3 (pc' := 36) (ls' := [(3, xi (↑(pg n tx (a + 1)))), (2, xi 1), (1, xi ((0 + (↑(pg n tx (a)))) - 48)), (0, xr 85)]) (st' := [xi 0, xi ((0 + (↑(pg n tx (a)))) - 48), xi 10]) rfl ?_
          refine ex_max rfl (by constructor <;> omega) (by decide) (by decide) ?_
          rw [if_neg (show ¬ ((0 + (↑(pg n tx (a)))) - 48 : Int) < 0 by omega)]
          refine ex_st 9 (pc' := 51) (ls' := [(1, xi (((10 * ((0 + (↑(pg n tx (a)))) - 48)) + (↑(pg n tx (a + 1)))) - 48)), (3, xi (↑(pg n tx (a + 1)))), (2, xi 1), (0, xr 85)]) (st' := [xi (J1 85 2), xr 85]) rfl ?_
          rw [aJ1]
          refine ex_st 2 (pc' := 53) (ls' := [(1, xi (((10 * ((0 + (↑(pg n tx (a)))) - 48)) + (↑(pg n tx (a + 1)))) - 48)), (3, xi (↑(pg n tx (a + 1)))), (2, xi 1), (0, xr 85)]) (st' := [xi ((↑(a + 1)) + 1), xr 85]) rfl ?_
          refine ex_pfi rfl (by decide) (rfl : xSH[85]? = some _) (by decide) rfl (by decide) (fun h => by cases h) ?_
          generalize hMJ2 : (x_up J1 85 2 ((↑(a + 1)) + 1)) = J2
          have aJ2 : J2 85 2 = ((a + 2 : Nat) : Int) := by rw [← hMJ2, x_up_at]; rfl
          have gJ2 : ∀ k j, ¬ (k = 85 ∧ j = 2) → J2 k j = J1 k j := fun k j hk => by rw [← hMJ2]; exact x_up_far hk
          have fJ2 : ∀ k j, ¬ (k = 85 ∧ j = 2) → J2 k j = I k j := fun k j hk => by rw [gJ2 k j (by omega), fJ1 k j (by omega)]
          have tJ2 : TXc J2 n tx := hT.fr (fJ2 _ _ (by omega)) (fun j => fJ2 _ _ (by omega))
          refine ex_st 4 (pc' := 6) (ls' := [(2, xi 2), (1, xi (((10 * ((0 + (↑(pg n tx (a)))) - 48)) + (↑(pg n tx (a + 1)))) - 48)), (3, xi (↑(pg n tx (a + 1)))), (0, xr 85)]) (st' := [xi 2, xi 2]) rfl ?_
          refine ex_st 1 (pc' := 62) (ls' := [(2, xi 2), (1, xi (((10 * ((0 + (↑(pg n tx (a)))) - 48)) + (↑(pg n tx (a + 1)))) - 48)), (3, xi (↑(pg n tx (a + 1)))), (0, xr 85)]) (st' := []) rfl ?_
          refine ex_st 1 (pc' := 63) (ls' := [(2, xi 2), (1, xi (((10 * ((0 + (↑(pg n tx (a)))) - 48)) + (↑(pg n tx (a + 1)))) - 48)), (3, xi (↑(pg n tx (a + 1)))), (0, xr 85)]) (st' := [xi (((10 * ((0 + (↑(pg n tx (a)))) - 48)) + (↑(pg n tx (a + 1)))) - 48)]) rfl ?_
          refine ex_reti rfl rfl ?_
          have e9 : p_nm n tx a = ((10 * ((0 + (↑(pg n tx (a)))) - 48)) + (↑(pg n tx (a + 1)))) - 48 ∧ p_na n tx a = a + 2 := by
            unfold p_nm p_na
            have d1 : p_dg (pg n tx a) = true := by unfold p_dg; exact decide_eq_true ⟨by omega, by omega⟩
            have d2 : p_dg (pg n tx (a + 1)) = true := by unfold p_dg; exact decide_eq_true ⟨by omega, by omega⟩
            rw [if_pos d1, if_pos d1, if_pos d2, if_pos d2]; exact ⟨by omega, rfl⟩
          rw [e9.1, e9.2]
          exact ⟨rfl, J2, rfl, aJ2, fJ2⟩
        · refine ex_st 1 (pc' := 31) (ls' := [(3, xi (↑(pg n tx (a + 1)))), (2, xi 1), (1, xi ((0 + (↑(pg n tx (a)))) - 48)), (0, xr 85)]) (st' := [xi ((0 + (↑(pg n tx (a)))) - 48)]) rfl ?_
          refine ex_reti rfl rfl ?_
          have e9 : p_nm n tx a = (0 + (↑(pg n tx (a)))) - 48 ∧ p_na n tx a = a + 1 := by
            unfold p_nm p_na
            have d1 : p_dg (pg n tx a) = true := by unfold p_dg; exact decide_eq_true ⟨by omega, by omega⟩
            rw [if_pos d1, if_pos d1, if_neg (by unfold p_dg; simp; omega), if_neg (by unfold p_dg; simp; omega)]; exact ⟨by omega, rfl⟩
          rw [e9.1, e9.2]
          exact ⟨rfl, J1, rfl, aJ1, fJ1⟩
    · refine ex_st 1 (pc' := 31) (ls' := [(3, xi (↑(pg n tx (a)))), (2, xi 0), (1, xi (-1)), (0, xr 85)]) (st' := [xi (-1)]) rfl ?_
      refine ex_reti rfl rfl ?_
      have e9 : p_nm n tx a = -1 ∧ p_na n tx a = a := by
        unfold p_nm p_na
        rw [if_neg (by unfold p_dg; simp; omega), if_neg (by unfold p_dg; simp; omega)]; exact ⟨rfl, rfl⟩
      rw [e9.1, e9.2]
      exact ⟨rfl, I, rfl, ha, (fun _ _ _ => rfl)⟩
theorem ct_S_idxL {sc : List Int} {I : Nat → Nat → Int} {L : Nat → Nat → Int64} {s : Nat} (hs : s < 128) : x_CE sc 7 xN_S_indexOf1 [xr 1013, xi (↑s)] (xSH, I, L) (some (xi (p_lt s))) (xSH, I, L) := by
  refine x_CE.of (M := xM_S_indexOf1) rfl (Nat.le_of_ble_eq_true rfl) ?_
  refine ex_st 3 (pc' := 3) (ls' := [(0, xr 1013), (1, xi (↑s))]) (st' := [xi 0, xi (↑s), xr 1013]) rfl ?_
  refine ex_inl (M' := xM_S_indexOf2) (as := [xr 1013, xi (↑s), xi 0]) (rest := []) (D' := 5) rfl (Nat.le_of_ble_eq_true rfl) (by decide) rfl ⟨rfl, rfl, rfl⟩ ⟨Nat.le_of_ble_eq_true rfl, rfl, rfl⟩ (Nat.le_of_ble_eq_true rfl) rfl ?_
  refine ex_st 1 (pc' := 1) (ls' := [(0, xr 1013), (1, xi (↑s)), (2, xi 0)]) (st' := [xr 1013]) rfl ?_
  refine ex_inl (M' := xM_S_isLatin1) (as := [xr 1013]) (rest := []) (D' := 4) rfl (Nat.le_of_ble_eq_true rfl) (by decide) rfl ⟨rfl, rfl, rfl⟩ ⟨Nat.le_of_ble_eq_true rfl, rfl, rfl⟩ (Nat.le_of_ble_eq_true rfl) rfl ?_
  refine ex_st 1 (pc' := 3) (ls' := [(0, xr 1013)]) (st' := [xi 1]) rfl ?_
  refine ex_st 1 (pc' := 6) (ls' := [(0, xr 1013)]) (st' := []) rfl ?_
  refine ex_st 2 (pc' := 10) (ls' := [(0, xr 1013)]) (st' := [xi 0]) rfl ?_
  refine ex_st 1 (pc' := 13) (ls' := [(0, xr 1013)]) (st' := []) rfl ?_
  refine ex_st 2 (pc' := 18) (ls' := [(0, xr 1013)]) (st' := [xi 1]) rfl ?_
  refine ex_retz rfl (Or.inr rfl) rfl ?_
  refine ex_st 1 (pc' := 7) (ls' := [(0, xr 1013), (1, xi (↑s)), (2, xi 0)]) (st' := []) rfl ?_
  refine ex_st 5 (pc' := 14) (ls' := [(0, xr 1013), (1, xi (↑s)), (2, xi 0)]) (st' := [xr 1013, xi 0, xi (↑s), xr 1023]) rfl ?_
  refine ex_inl (M' := xM_S_length) (as := [xr 1013]) (rest := [xi 0, xi (↑s), xr 1023]) (D' := 4) rfl (Nat.le_of_ble_eq_true rfl) (by decide) rfl ⟨rfl, rfl, rfl⟩ ⟨Nat.le_of_ble_eq_true rfl, rfl, rfl⟩ (Nat.le_of_ble_eq_true rfl) rfl ?_
  refine ex_st 4 (pc' := 6) (ls' := [(0, xr 1013)]) (st' := [xr 1013, xi 6]) rfl ?_
  refine ex_inl (M' := xM_S_coder) (as := [xr 1013]) (rest := [xi 6]) (D' := 3) rfl (Nat.le_of_ble_eq_true rfl) (by decide) rfl ⟨rfl, rfl, rfl⟩ ⟨Nat.le_of_ble_eq_true rfl, rfl, rfl⟩ (Nat.le_of_ble_eq_true rfl) rfl ?_
  refine ex_st 1 (pc' := 3) (ls' := [(0, xr 1013)]) (st' := [xi 1]) rfl ?_
  refine ex_st 1 (pc' := 6) (ls' := [(0, xr 1013)]) (st' := []) rfl ?_
  refine ex_st 3 (pc' := 14) (ls' := [(0, xr 1013)]) (st' := [xi 0]) rfl ?_
  refine ex_ret6 rfl (by omega) (by omega) rfl ?_
  refine ex_ishr rfl ?_
  rw [show z_shr 6 0 = 6 by decide +kernel]
  refine ex_reti rfl rfl ?_
  refine ex_inl (M' := xM_L1_indexOf) (as := [xr 1023, xi (↑s), xi 0, xi 6]) (rest := []) (D' := 4) rfl (Nat.le_of_ble_eq_true rfl) (by decide) rfl ⟨rfl, rfl, rfl⟩ ⟨Nat.le_of_ble_eq_true rfl, rfl, rfl⟩ (Nat.le_of_ble_eq_true rfl) rfl ?_
  refine ex_st 1 (pc' := 1) (ls' := [(0, xr 1023), (1, xi (↑s)), (2, xi 0), (3, xi 6)]) (st' := [xi (↑s)]) rfl ?_
  refine ex_inl (M' := xM_L1_canEncode) (as := [xi (↑s)]) (rest := []) (D' := 3) rfl (Nat.le_of_ble_eq_true rfl) (by decide) rfl ⟨rfl, rfl, rfl⟩ ⟨Nat.le_of_ble_eq_true rfl, rfl, rfl⟩ (Nat.le_of_ble_eq_true rfl) rfl ?_
  refine ex_st 1 (pc' := 1) (ls' := [(0, xi (↑s))]) (st' := [xi (↑s)]) rfl ?_
  refine ex_if rfl (by first | omega | (constructor <;> omega) | assumption | exact x_bR _) (fun (h0 : (↑s : Int) < 0) => ?_) (fun (h0 : ¬ (↑s : Int) < 0) => ?_)
  · refine ex_st 1 (pc' := 16) (ls' := [(0, xi (↑s))]) (st' := [xi 0]) rfl ?_
    refine ex_retz rfl (Or.inl rfl) rfl ?_
    refine ex_st 1 (pc' := 7) (ls' := [(0, xr 1023), (1, xi (↑s)), (2, xi 0), (3, xi 6)]) (st' := []) rfl ?_
    refine ex_st 1 (pc' := 8) (ls' := [(0, xr 1023), (1, xi (↑s)), (2, xi 0), (3, xi 6)]) (st' := [xi (-1)]) rfl ?_
    refine ex_reti rfl rfl ?_
    refine ex_st 1 (pc' := 36) (ls' := [(0, xr 1013), (1, xi (↑s)), (2, xi 0)]) (st' := [xi (-1)]) rfl ?_
    refine ex_reti rfl rfl ?_
    refine ex_reti rfl rfl ?_
    exact ⟨x_req (by unfold p_lt; repeat' split; all_goals omega), rfl⟩
  · refine ex_st 2 (pc' := 8) (ls' := [(0, xi (↑s))]) (st' := [xi 255, xi (↑s)]) rfl ?_
    refine ex_ic rfl (by first | omega | (constructor <;> omega) | assumption | exact x_bR _) (by decide) (fun (h1 : ((255 : Int)) < (↑s : Int)) => ?_) (fun (h1 : ¬ ((255 : Int)) < (↑s : Int)) => ?_)
    · refine ex_st 1 (pc' := 16) (ls' := [(0, xi (↑s))]) (st' := [xi 0]) rfl ?_
      refine ex_retz rfl (Or.inl rfl) rfl ?_
      refine ex_st 1 (pc' := 7) (ls' := [(0, xr 1023), (1, xi (↑s)), (2, xi 0), (3, xi 6)]) (st' := []) rfl ?_
      refine ex_st 1 (pc' := 8) (ls' := [(0, xr 1023), (1, xi (↑s)), (2, xi 0), (3, xi 6)]) (st' := [xi (-1)]) rfl ?_
      refine ex_reti rfl rfl ?_
      refine ex_st 1 (pc' := 36) (ls' := [(0, xr 1013), (1, xi (↑s)), (2, xi 0)]) (st' := [xi (-1)]) rfl ?_
      refine ex_reti rfl rfl ?_
      refine ex_reti rfl rfl ?_
      exact ⟨x_req (by unfold p_lt; repeat' split; all_goals omega), rfl⟩
    · refine ex_st 2 (pc' := 16) (ls' := [(0, xi (↑s))]) (st' := [xi 1]) rfl ?_
      refine ex_retz rfl (Or.inr rfl) rfl ?_
      refine ex_st 1 (pc' := 9) (ls' := [(0, xr 1023), (1, xi (↑s)), (2, xi 0), (3, xi 6)]) (st' := []) rfl ?_
      refine ex_st 2 (pc' := 11) (ls' := [(0, xr 1023), (1, xi (↑s)), (2, xi 0), (3, xi 6)]) (st' := [xi 0, xi 0]) rfl ?_
      refine ex_max rfl (by decide) (by decide) (by decide) ?_
      rw [show (if (0 : Int) < 0 then (0 : Int) else 0) = 0 by decide]
      refine ex_st 4 (pc' := 18) (ls' := [(2, xi 0), (0, xr 1023), (1, xi (↑s)), (3, xi 6)]) (st' := [xi 6, xi 6]) rfl ?_
      refine ex_min rfl (by decide) (by decide) (by decide) ?_
      rw [show (if (6 : Int) < 6 then (6 : Int) else 6) = 6 by decide]
      refine ex_st 3 (pc' := 24) (ls' := [(3, xi 6), (2, xi 0), (0, xr 1023), (1, xi (↑s))]) (st' := [xi 6, xi 0]) rfl ?_
      refine ex_st 1 (pc' := 29) (ls' := [(3, xi 6), (2, xi 0), (0, xr 1023), (1, xi (↑s))]) (st' := []) rfl ?_
      refine ex_st 4 (pc' := 33) (ls' := [(3, xi 6), (2, xi 0), (0, xr 1023), (1, xi (↑s))]) (st' := [xi 6, xi 0, xi (↑s), xr 1023]) rfl ?_
      refine ex_inl (M' := xM_L1_indexOfChar) (as := [xr 1023, xi (↑s), xi 0, xi 6]) (rest := []) (D' := 3) rfl (Nat.le_of_ble_eq_true rfl) (by decide) rfl ⟨rfl, rfl, rfl⟩ ⟨Nat.le_of_ble_eq_true rfl, rfl, rfl⟩ (Nat.le_of_ble_eq_true rfl) rfl ?_
      refine ex_st 1 (pc' := 1) (ls' := [(0, xr 1023), (1, xi (↑s)), (2, xi 0), (3, xi 6)]) (st' := [xi (↑s)]) rfl ?_
      refine ex_i2b rfl ?_
      rw [z_i2b_id (by omega) (by omega)]
      refine ex_st 5 (pc' := 10) (ls' := [(5, xi 0), (4, xi (↑s)), (0, xr 1023), (1, xi (↑s)), (2, xi 0), (3, xi 6)]) (st' := [xi 6, xi 0]) rfl ?_
      refine ex_st 1 (pc' := 13) (ls' := [(5, xi 0), (4, xi (↑s)), (0, xr 1023), (1, xi (↑s)), (2, xi 0), (3, xi 6)]) (st' := []) rfl ?_
      refine ex_st 2 (pc' := 16) (ls' := [(5, xi 0), (4, xi (↑s)), (0, xr 1023), (1, xi (↑s)), (2, xi 0), (3, xi 6)]) (st' := [xi 0, xr 1023]) rfl ?_
      refine ex_cbald (v := 112) (j := 0) rfl (by decide) rfl rfl (by decide) (by decide) rfl ?_
      refine ex_st 1 (pc' := 19) (ls' := [(5, xi 0), (4, xi (↑s)), (0, xr 1023), (1, xi (↑s)), (2, xi 0), (3, xi 6)]) (st' := [xi (↑s), xi 112]) rfl ?_
      refine ex_ic rfl (by decide) (by first | omega | (constructor <;> omega) | assumption | exact x_bR _) (fun (h2 : ¬ ((112 : Int)) = (↑s : Int)) => ?_) (fun (h2 : ¬ ¬ ((112 : Int)) = (↑s : Int)) => ?_)
      · refine ex_st 4 (pc' := 10) (ls' := [(5, xi 1), (4, xi (↑s)), (0, xr 1023), (1, xi (↑s)), (2, xi 0), (3, xi 6)]) (st' := [xi 6, xi 1]) rfl ?_
        refine ex_st 1 (pc' := 13) (ls' := [(5, xi 1), (4, xi (↑s)), (0, xr 1023), (1, xi (↑s)), (2, xi 0), (3, xi 6)]) (st' := []) rfl ?_
        refine ex_st 2 (pc' := 16) (ls' := [(5, xi 1), (4, xi (↑s)), (0, xr 1023), (1, xi (↑s)), (2, xi 0), (3, xi 6)]) (st' := [xi 1, xr 1023]) rfl ?_
        refine ex_cbald (v := 107) (j := 1) rfl (by decide) rfl rfl (by decide) (by decide) rfl ?_
        refine ex_st 1 (pc' := 19) (ls' := [(5, xi 1), (4, xi (↑s)), (0, xr 1023), (1, xi (↑s)), (2, xi 0), (3, xi 6)]) (st' := [xi (↑s), xi 107]) rfl ?_
        refine ex_ic rfl (by decide) (by first | omega | (constructor <;> omega) | assumption | exact x_bR _) (fun (h3 : ¬ ((107 : Int)) = (↑s : Int)) => ?_) (fun (h3 : ¬ ¬ ((107 : Int)) = (↑s : Int)) => ?_)
        · refine ex_st 4 (pc' := 10) (ls' := [(5, xi 2), (4, xi (↑s)), (0, xr 1023), (1, xi (↑s)), (2, xi 0), (3, xi 6)]) (st' := [xi 6, xi 2]) rfl ?_
          refine ex_st 1 (pc' := 13) (ls' := [(5, xi 2), (4, xi (↑s)), (0, xr 1023), (1, xi (↑s)), (2, xi 0), (3, xi 6)]) (st' := []) rfl ?_
          refine ex_st 2 (pc' := 16) (ls' := [(5, xi 2), (4, xi (↑s)), (0, xr 1023), (1, xi (↑s)), (2, xi 0), (3, xi 6)]) (st' := [xi 2, xr 1023]) rfl ?_
          refine ex_cbald (v := 118) (j := 2) rfl (by decide) rfl rfl (by decide) (by decide) rfl ?_
          refine ex_st 1 (pc' := 19) (ls' := [(5, xi 2), (4, xi (↑s)), (0, xr 1023), (1, xi (↑s)), (2, xi 0), (3, xi 6)]) (st' := [xi (↑s), xi 118]) rfl ?_
          refine ex_ic rfl (by decide) (by first | omega | (constructor <;> omega) | assumption | exact x_bR _) (fun (h4 : ¬ ((118 : Int)) = (↑s : Int)) => ?_) (fun (h4 : ¬ ¬ ((118 : Int)) = (↑s : Int)) => ?_)
          · refine ex_st 4 (pc' := 10) (ls' := [(5, xi 3), (4, xi (↑s)), (0, xr 1023), (1, xi (↑s)), (2, xi 0), (3, xi 6)]) (st' := [xi 6, xi 3]) rfl ?_
            refine ex_st 1 (pc' := 13) (ls' := [(5, xi 3), (4, xi (↑s)), (0, xr 1023), (1, xi (↑s)), (2, xi 0), (3, xi 6)]) (st' := []) rfl ?_
            refine ex_st 2 (pc' := 16) (ls' := [(5, xi 3), (4, xi (↑s)), (0, xr 1023), (1, xi (↑s)), (2, xi 0), (3, xi 6)]) (st' := [xi 3, xr 1023]) rfl ?_
            refine ex_cbald (v := 120) (j := 3) rfl (by decide) rfl rfl (by decide) (by decide) rfl ?_
            refine ex_st 1 (pc' := 19) (ls' := [(5, xi 3), (4, xi (↑s)), (0, xr 1023), (1, xi (↑s)), (2, xi 0), (3, xi 6)]) (st' := [xi (↑s), xi 120]) rfl ?_
            refine ex_ic rfl (by decide) (by first | omega | (constructor <;> omega) | assumption | exact x_bR _) (fun (h5 : ¬ ((120 : Int)) = (↑s : Int)) => ?_) (fun (h5 : ¬ ¬ ((120 : Int)) = (↑s : Int)) => ?_)
            · refine ex_st 4 (pc' := 10) (ls' := [(5, xi 4), (4, xi (↑s)), (0, xr 1023), (1, xi (↑s)), (2, xi 0), (3, xi 6)]) (st' := [xi 6, xi 4]) rfl ?_
              refine ex_st 1 (pc' := 13) (ls' := [(5, xi 4), (4, xi (↑s)), (0, xr 1023), (1, xi (↑s)), (2, xi 0), (3, xi 6)]) (st' := []) rfl ?_
              refine ex_st 2 (pc' := 16) (ls' := [(5, xi 4), (4, xi (↑s)), (0, xr 1023), (1, xi (↑s)), (2, xi 0), (3, xi 6)]) (st' := [xi 4, xr 1023]) rfl ?_
              refine ex_cbald (v := 103) (j := 4) rfl (by decide) rfl rfl (by decide) (by decide) rfl ?_
              refine ex_st 1 (pc' := 19) (ls' := [(5, xi 4), (4, xi (↑s)), (0, xr 1023), (1, xi (↑s)), (2, xi 0), (3, xi 6)]) (st' := [xi (↑s), xi 103]) rfl ?_
              refine ex_ic rfl (by decide) (by first | omega | (constructor <;> omega) | assumption | exact x_bR _) (fun (h6 : ¬ ((103 : Int)) = (↑s : Int)) => ?_) (fun (h6 : ¬ ¬ ((103 : Int)) = (↑s : Int)) => ?_)
              · refine ex_st 4 (pc' := 10) (ls' := [(5, xi 5), (4, xi (↑s)), (0, xr 1023), (1, xi (↑s)), (2, xi 0), (3, xi 6)]) (st' := [xi 6, xi 5]) rfl ?_
                refine ex_st 1 (pc' := 13) (ls' := [(5, xi 5), (4, xi (↑s)), (0, xr 1023), (1, xi (↑s)), (2, xi 0), (3, xi 6)]) (st' := []) rfl ?_
                refine ex_st 2 (pc' := 16) (ls' := [(5, xi 5), (4, xi (↑s)), (0, xr 1023), (1, xi (↑s)), (2, xi 0), (3, xi 6)]) (st' := [xi 5, xr 1023]) rfl ?_
                refine ex_cbald (v := 115) (j := 5) rfl (by decide) rfl rfl (by decide) (by decide) rfl ?_
                refine ex_st 1 (pc' := 19) (ls' := [(5, xi 5), (4, xi (↑s)), (0, xr 1023), (1, xi (↑s)), (2, xi 0), (3, xi 6)]) (st' := [xi (↑s), xi 115]) rfl ?_
                refine ex_ic rfl (by decide) (by first | omega | (constructor <;> omega) | assumption | exact x_bR _) (fun (h7 : ¬ ((115 : Int)) = (↑s : Int)) => ?_) (fun (h7 : ¬ ¬ ((115 : Int)) = (↑s : Int)) => ?_)
                · refine ex_st 4 (pc' := 10) (ls' := [(5, xi 6), (4, xi (↑s)), (0, xr 1023), (1, xi (↑s)), (2, xi 0), (3, xi 6)]) (st' := [xi 6, xi 6]) rfl ?_
                  refine ex_st 1 (pc' := 31) (ls' := [(5, xi 6), (4, xi (↑s)), (0, xr 1023), (1, xi (↑s)), (2, xi 0), (3, xi 6)]) (st' := []) rfl ?_
                  refine ex_st 1 (pc' := 32) (ls' := [(5, xi 6), (4, xi (↑s)), (0, xr 1023), (1, xi (↑s)), (2, xi 0), (3, xi 6)]) (st' := [xi (-1)]) rfl ?_
                  refine ex_reti rfl rfl ?_
                  refine ex_reti rfl rfl ?_
                  refine ex_st 1 (pc' := 36) (ls' := [(0, xr 1013), (1, xi (↑s)), (2, xi 0)]) (st' := [xi (-1)]) rfl ?_
                  refine ex_reti rfl rfl ?_
                  refine ex_reti rfl rfl ?_
                  exact ⟨x_req (by unfold p_lt; repeat' split; all_goals omega), rfl⟩
                · refine ex_st 1 (pc' := 24) (ls' := [(5, xi 5), (4, xi (↑s)), (0, xr 1023), (1, xi (↑s)), (2, xi 0), (3, xi 6)]) (st' := [xi 5]) rfl ?_
                  refine ex_reti rfl rfl ?_
                  refine ex_reti rfl rfl ?_
                  refine ex_st 1 (pc' := 36) (ls' := [(0, xr 1013), (1, xi (↑s)), (2, xi 0)]) (st' := [xi 5]) rfl ?_
                  refine ex_reti rfl rfl ?_
                  refine ex_reti rfl rfl ?_
                  exact ⟨x_req (by unfold p_lt; repeat' split; all_goals omega), rfl⟩
              · refine ex_st 1 (pc' := 24) (ls' := [(5, xi 4), (4, xi (↑s)), (0, xr 1023), (1, xi (↑s)), (2, xi 0), (3, xi 6)]) (st' := [xi 4]) rfl ?_
                refine ex_reti rfl rfl ?_
                refine ex_reti rfl rfl ?_
                refine ex_st 1 (pc' := 36) (ls' := [(0, xr 1013), (1, xi (↑s)), (2, xi 0)]) (st' := [xi 4]) rfl ?_
                refine ex_reti rfl rfl ?_
                refine ex_reti rfl rfl ?_
                exact ⟨x_req (by unfold p_lt; repeat' split; all_goals omega), rfl⟩
            · refine ex_st 1 (pc' := 24) (ls' := [(5, xi 3), (4, xi (↑s)), (0, xr 1023), (1, xi (↑s)), (2, xi 0), (3, xi 6)]) (st' := [xi 3]) rfl ?_
              refine ex_reti rfl rfl ?_
              refine ex_reti rfl rfl ?_
              refine ex_st 1 (pc' := 36) (ls' := [(0, xr 1013), (1, xi (↑s)), (2, xi 0)]) (st' := [xi 3]) rfl ?_
              refine ex_reti rfl rfl ?_
              refine ex_reti rfl rfl ?_
              exact ⟨x_req (by unfold p_lt; repeat' split; all_goals omega), rfl⟩
          · refine ex_st 1 (pc' := 24) (ls' := [(5, xi 2), (4, xi (↑s)), (0, xr 1023), (1, xi (↑s)), (2, xi 0), (3, xi 6)]) (st' := [xi 2]) rfl ?_
            refine ex_reti rfl rfl ?_
            refine ex_reti rfl rfl ?_
            refine ex_st 1 (pc' := 36) (ls' := [(0, xr 1013), (1, xi (↑s)), (2, xi 0)]) (st' := [xi 2]) rfl ?_
            refine ex_reti rfl rfl ?_
            refine ex_reti rfl rfl ?_
            exact ⟨x_req (by unfold p_lt; repeat' split; all_goals omega), rfl⟩
        · refine ex_st 1 (pc' := 24) (ls' := [(5, xi 1), (4, xi (↑s)), (0, xr 1023), (1, xi (↑s)), (2, xi 0), (3, xi 6)]) (st' := [xi 1]) rfl ?_
          refine ex_reti rfl rfl ?_
          refine ex_reti rfl rfl ?_
          refine ex_st 1 (pc' := 36) (ls' := [(0, xr 1013), (1, xi (↑s)), (2, xi 0)]) (st' := [xi 1]) rfl ?_
          refine ex_reti rfl rfl ?_
          refine ex_reti rfl rfl ?_
          exact ⟨x_req (by unfold p_lt; repeat' split; all_goals omega), rfl⟩
      · refine ex_st 1 (pc' := 24) (ls' := [(5, xi 0), (4, xi (↑s)), (0, xr 1023), (1, xi (↑s)), (2, xi 0), (3, xi 6)]) (st' := [xi 0]) rfl ?_
        refine ex_reti rfl rfl ?_
        refine ex_reti rfl rfl ?_
        refine ex_st 1 (pc' := 36) (ls' := [(0, xr 1013), (1, xi (↑s)), (2, xi 0)]) (st' := [xi 0]) rfl ?_
        refine ex_reti rfl rfl ?_
        refine ex_reti rfl rfl ?_
        exact ⟨x_req (by unfold p_lt; repeat' split; all_goals omega), rfl⟩
theorem ct_S_idxR {sc : List Int} {I : Nat → Nat → Int} {L : Nat → Nat → Int64} {s : Nat} (hs : s < 128) : x_CE sc 7 xN_S_indexOf1 [xr 1014, xi (↑s)] (xSH, I, L) (some (xi (if 60 ≤ s ∧ s ≤ 62 then (s : Int) - 60 else -1))) (xSH, I, L) := by
  refine x_CE.of (M := xM_S_indexOf1) rfl (Nat.le_of_ble_eq_true rfl) ?_
  refine ex_st 3 (pc' := 3) (ls' := [(0, xr 1014), (1, xi (↑s))]) (st' := [xi 0, xi (↑s), xr 1014]) rfl ?_
  refine ex_inl (M' := xM_S_indexOf2) (as := [xr 1014, xi (↑s), xi 0]) (rest := []) (D' := 5) rfl (Nat.le_of_ble_eq_true rfl) (by decide) rfl ⟨rfl, rfl, rfl⟩ ⟨Nat.le_of_ble_eq_true rfl, rfl, rfl⟩ (Nat.le_of_ble_eq_true rfl) rfl ?_
  refine ex_st 1 (pc' := 1) (ls' := [(0, xr 1014), (1, xi (↑s)), (2, xi 0)]) (st' := [xr 1014]) rfl ?_
  refine ex_inl (M' := xM_S_isLatin1) (as := [xr 1014]) (rest := []) (D' := 4) rfl (Nat.le_of_ble_eq_true rfl) (by decide) rfl ⟨rfl, rfl, rfl⟩ ⟨Nat.le_of_ble_eq_true rfl, rfl, rfl⟩ (Nat.le_of_ble_eq_true rfl) rfl ?_
  refine ex_st 1 (pc' := 3) (ls' := [(0, xr 1014)]) (st' := [xi 1]) rfl ?_
  refine ex_st 1 (pc' := 6) (ls' := [(0, xr 1014)]) (st' := []) rfl ?_
  refine ex_st 2 (pc' := 10) (ls' := [(0, xr 1014)]) (st' := [xi 0]) rfl ?_
  refine ex_st 1 (pc' := 13) (ls' := [(0, xr 1014)]) (st' := []) rfl ?_
  refine ex_st 2 (pc' := 18) (ls' := [(0, xr 1014)]) (st' := [xi 1]) rfl ?_
  refine ex_retz rfl (Or.inr rfl) rfl ?_
  refine ex_st 1 (pc' := 7) (ls' := [(0, xr 1014), (1, xi (↑s)), (2, xi 0)]) (st' := []) rfl ?_
  refine ex_st 5 (pc' := 14) (ls' := [(0, xr 1014), (1, xi (↑s)), (2, xi 0)]) (st' := [xr 1014, xi 0, xi (↑s), xr 1024]) rfl ?_
  refine ex_inl (M' := xM_S_length) (as := [xr 1014]) (rest := [xi 0, xi (↑s), xr 1024]) (D' := 4) rfl (Nat.le_of_ble_eq_true rfl) (by decide) rfl ⟨rfl, rfl, rfl⟩ ⟨Nat.le_of_ble_eq_true rfl, rfl, rfl⟩ (Nat.le_of_ble_eq_true rfl) rfl ?_
  refine ex_st 4 (pc' := 6) (ls' := [(0, xr 1014)]) (st' := [xr 1014, xi 3]) rfl ?_
  refine ex_inl (M' := xM_S_coder) (as := [xr 1014]) (rest := [xi 3]) (D' := 3) rfl (Nat.le_of_ble_eq_true rfl) (by decide) rfl ⟨rfl, rfl, rfl⟩ ⟨Nat.le_of_ble_eq_true rfl, rfl, rfl⟩ (Nat.le_of_ble_eq_true rfl) rfl ?_
  refine ex_st 1 (pc' := 3) (ls' := [(0, xr 1014)]) (st' := [xi 1]) rfl ?_
  refine ex_st 1 (pc' := 6) (ls' := [(0, xr 1014)]) (st' := []) rfl ?_
  refine ex_st 3 (pc' := 14) (ls' := [(0, xr 1014)]) (st' := [xi 0]) rfl ?_
  refine ex_ret6 rfl (by omega) (by omega) rfl ?_
  refine ex_ishr rfl ?_
  rw [show z_shr 3 0 = 3 by decide +kernel]
  refine ex_reti rfl rfl ?_
  refine ex_inl (M' := xM_L1_indexOf) (as := [xr 1024, xi (↑s), xi 0, xi 3]) (rest := []) (D' := 4) rfl (Nat.le_of_ble_eq_true rfl) (by decide) rfl ⟨rfl, rfl, rfl⟩ ⟨Nat.le_of_ble_eq_true rfl, rfl, rfl⟩ (Nat.le_of_ble_eq_true rfl) rfl ?_
  refine ex_st 1 (pc' := 1) (ls' := [(0, xr 1024), (1, xi (↑s)), (2, xi 0), (3, xi 3)]) (st' := [xi (↑s)]) rfl ?_
  refine ex_inl (M' := xM_L1_canEncode) (as := [xi (↑s)]) (rest := []) (D' := 3) rfl (Nat.le_of_ble_eq_true rfl) (by decide) rfl ⟨rfl, rfl, rfl⟩ ⟨Nat.le_of_ble_eq_true rfl, rfl, rfl⟩ (Nat.le_of_ble_eq_true rfl) rfl ?_
  refine ex_st 1 (pc' := 1) (ls' := [(0, xi (↑s))]) (st' := [xi (↑s)]) rfl ?_
  refine ex_if rfl (by first | omega | (constructor <;> omega) | assumption | exact x_bR _) (fun (h0 : (↑s : Int) < 0) => ?_) (fun (h0 : ¬ (↑s : Int) < 0) => ?_)
  · refine ex_st 1 (pc' := 16) (ls' := [(0, xi (↑s))]) (st' := [xi 0]) rfl ?_
    refine ex_retz rfl (Or.inl rfl) rfl ?_
    refine ex_st 1 (pc' := 7) (ls' := [(0, xr 1024), (1, xi (↑s)), (2, xi 0), (3, xi 3)]) (st' := []) rfl ?_
    refine ex_st 1 (pc' := 8) (ls' := [(0, xr 1024), (1, xi (↑s)), (2, xi 0), (3, xi 3)]) (st' := [xi (-1)]) rfl ?_
    refine ex_reti rfl rfl ?_
    refine ex_st 1 (pc' := 36) (ls' := [(0, xr 1014), (1, xi (↑s)), (2, xi 0)]) (st' := [xi (-1)]) rfl ?_
    refine ex_reti rfl rfl ?_
    refine ex_reti rfl rfl ?_
    exact ⟨x_req (by split <;> omega), rfl⟩
  · refine ex_st 2 (pc' := 8) (ls' := [(0, xi (↑s))]) (st' := [xi 255, xi (↑s)]) rfl ?_
    refine ex_ic rfl (by first | omega | (constructor <;> omega) | assumption | exact x_bR _) (by decide) (fun (h1 : ((255 : Int)) < (↑s : Int)) => ?_) (fun (h1 : ¬ ((255 : Int)) < (↑s : Int)) => ?_)
    · refine ex_st 1 (pc' := 16) (ls' := [(0, xi (↑s))]) (st' := [xi 0]) rfl ?_
      refine ex_retz rfl (Or.inl rfl) rfl ?_
      refine ex_st 1 (pc' := 7) (ls' := [(0, xr 1024), (1, xi (↑s)), (2, xi 0), (3, xi 3)]) (st' := []) rfl ?_
      refine ex_st 1 (pc' := 8) (ls' := [(0, xr 1024), (1, xi (↑s)), (2, xi 0), (3, xi 3)]) (st' := [xi (-1)]) rfl ?_
      refine ex_reti rfl rfl ?_
      refine ex_st 1 (pc' := 36) (ls' := [(0, xr 1014), (1, xi (↑s)), (2, xi 0)]) (st' := [xi (-1)]) rfl ?_
      refine ex_reti rfl rfl ?_
      refine ex_reti rfl rfl ?_
      exact ⟨x_req (by split <;> omega), rfl⟩
    · refine ex_st 2 (pc' := 16) (ls' := [(0, xi (↑s))]) (st' := [xi 1]) rfl ?_
      refine ex_retz rfl (Or.inr rfl) rfl ?_
      refine ex_st 1 (pc' := 9) (ls' := [(0, xr 1024), (1, xi (↑s)), (2, xi 0), (3, xi 3)]) (st' := []) rfl ?_
      refine ex_st 2 (pc' := 11) (ls' := [(0, xr 1024), (1, xi (↑s)), (2, xi 0), (3, xi 3)]) (st' := [xi 0, xi 0]) rfl ?_
      refine ex_max rfl (by decide) (by decide) (by decide) ?_
      rw [show (if (0 : Int) < 0 then (0 : Int) else 0) = 0 by decide]
      refine ex_st 4 (pc' := 18) (ls' := [(2, xi 0), (0, xr 1024), (1, xi (↑s)), (3, xi 3)]) (st' := [xi 3, xi 3]) rfl ?_
      refine ex_min rfl (by decide) (by decide) (by decide) ?_
      rw [show (if (3 : Int) < 3 then (3 : Int) else 3) = 3 by decide]
      refine ex_st 3 (pc' := 24) (ls' := [(3, xi 3), (2, xi 0), (0, xr 1024), (1, xi (↑s))]) (st' := [xi 3, xi 0]) rfl ?_
      refine ex_st 1 (pc' := 29) (ls' := [(3, xi 3), (2, xi 0), (0, xr 1024), (1, xi (↑s))]) (st' := []) rfl ?_
      refine ex_st 4 (pc' := 33) (ls' := [(3, xi 3), (2, xi 0), (0, xr 1024), (1, xi (↑s))]) (st' := [xi 3, xi 0, xi (↑s), xr 1024]) rfl ?_
      refine ex_inl (M' := xM_L1_indexOfChar) (as := [xr 1024, xi (↑s), xi 0, xi 3]) (rest := []) (D' := 3) rfl (Nat.le_of_ble_eq_true rfl) (by decide) rfl ⟨rfl, rfl, rfl⟩ ⟨Nat.le_of_ble_eq_true rfl, rfl, rfl⟩ (Nat.le_of_ble_eq_true rfl) rfl ?_
      refine ex_st 1 (pc' := 1) (ls' := [(0, xr 1024), (1, xi (↑s)), (2, xi 0), (3, xi 3)]) (st' := [xi (↑s)]) rfl ?_
      refine ex_i2b rfl ?_
      rw [z_i2b_id (by omega) (by omega)]
      refine ex_st 5 (pc' := 10) (ls' := [(5, xi 0), (4, xi (↑s)), (0, xr 1024), (1, xi (↑s)), (2, xi 0), (3, xi 3)]) (st' := [xi 3, xi 0]) rfl ?_
      refine ex_st 1 (pc' := 13) (ls' := [(5, xi 0), (4, xi (↑s)), (0, xr 1024), (1, xi (↑s)), (2, xi 0), (3, xi 3)]) (st' := []) rfl ?_
      refine ex_st 2 (pc' := 16) (ls' := [(5, xi 0), (4, xi (↑s)), (0, xr 1024), (1, xi (↑s)), (2, xi 0), (3, xi 3)]) (st' := [xi 0, xr 1024]) rfl ?_
      refine ex_cbald (v := 60) (j := 0) rfl (by decide) rfl rfl (by decide) (by decide) rfl ?_
      refine ex_st 1 (pc' := 19) (ls' := [(5, xi 0), (4, xi (↑s)), (0, xr 1024), (1, xi (↑s)), (2, xi 0), (3, xi 3)]) (st' := [xi (↑s), xi 60]) rfl ?_
      refine ex_ic rfl (by decide) (by first | omega | (constructor <;> omega) | assumption | exact x_bR _) (fun (h2 : ¬ ((60 : Int)) = (↑s : Int)) => ?_) (fun (h2 : ¬ ¬ ((60 : Int)) = (↑s : Int)) => ?_)
      · refine ex_st 4 (pc' := 10) (ls' := [(5, xi 1), (4, xi (↑s)), (0, xr 1024), (1, xi (↑s)), (2, xi 0), (3, xi 3)]) (st' := [xi 3, xi 1]) rfl ?_
        refine ex_st 1 (pc' := 13) (ls' := [(5, xi 1), (4, xi (↑s)), (0, xr 1024), (1, xi (↑s)), (2, xi 0), (3, xi 3)]) (st' := []) rfl ?_
        refine ex_st 2 (pc' := 16) (ls' := [(5, xi 1), (4, xi (↑s)), (0, xr 1024), (1, xi (↑s)), (2, xi 0), (3, xi 3)]) (st' := [xi 1, xr 1024]) rfl ?_
        refine ex_cbald (v := 61) (j := 1) rfl (by decide) rfl rfl (by decide) (by decide) rfl ?_
        refine ex_st 1 (pc' := 19) (ls' := [(5, xi 1), (4, xi (↑s)), (0, xr 1024), (1, xi (↑s)), (2, xi 0), (3, xi 3)]) (st' := [xi (↑s), xi 61]) rfl ?_
        refine ex_ic rfl (by decide) (by first | omega | (constructor <;> omega) | assumption | exact x_bR _) (fun (h3 : ¬ ((61 : Int)) = (↑s : Int)) => ?_) (fun (h3 : ¬ ¬ ((61 : Int)) = (↑s : Int)) => ?_)
        · refine ex_st 4 (pc' := 10) (ls' := [(5, xi 2), (4, xi (↑s)), (0, xr 1024), (1, xi (↑s)), (2, xi 0), (3, xi 3)]) (st' := [xi 3, xi 2]) rfl ?_
          refine ex_st 1 (pc' := 13) (ls' := [(5, xi 2), (4, xi (↑s)), (0, xr 1024), (1, xi (↑s)), (2, xi 0), (3, xi 3)]) (st' := []) rfl ?_
          refine ex_st 2 (pc' := 16) (ls' := [(5, xi 2), (4, xi (↑s)), (0, xr 1024), (1, xi (↑s)), (2, xi 0), (3, xi 3)]) (st' := [xi 2, xr 1024]) rfl ?_
          refine ex_cbald (v := 62) (j := 2) rfl (by decide) rfl rfl (by decide) (by decide) rfl ?_
          refine ex_st 1 (pc' := 19) (ls' := [(5, xi 2), (4, xi (↑s)), (0, xr 1024), (1, xi (↑s)), (2, xi 0), (3, xi 3)]) (st' := [xi (↑s), xi 62]) rfl ?_
          refine ex_ic rfl (by decide) (by first | omega | (constructor <;> omega) | assumption | exact x_bR _) (fun (h4 : ¬ ((62 : Int)) = (↑s : Int)) => ?_) (fun (h4 : ¬ ¬ ((62 : Int)) = (↑s : Int)) => ?_)
          · refine ex_st 4 (pc' := 10) (ls' := [(5, xi 3), (4, xi (↑s)), (0, xr 1024), (1, xi (↑s)), (2, xi 0), (3, xi 3)]) (st' := [xi 3, xi 3]) rfl ?_
            refine ex_st 1 (pc' := 31) (ls' := [(5, xi 3), (4, xi (↑s)), (0, xr 1024), (1, xi (↑s)), (2, xi 0), (3, xi 3)]) (st' := []) rfl ?_
            refine ex_st 1 (pc' := 32) (ls' := [(5, xi 3), (4, xi (↑s)), (0, xr 1024), (1, xi (↑s)), (2, xi 0), (3, xi 3)]) (st' := [xi (-1)]) rfl ?_
            refine ex_reti rfl rfl ?_
            refine ex_reti rfl rfl ?_
            refine ex_st 1 (pc' := 36) (ls' := [(0, xr 1014), (1, xi (↑s)), (2, xi 0)]) (st' := [xi (-1)]) rfl ?_
            refine ex_reti rfl rfl ?_
            refine ex_reti rfl rfl ?_
            exact ⟨x_req (by split <;> omega), rfl⟩
          · refine ex_st 1 (pc' := 24) (ls' := [(5, xi 2), (4, xi (↑s)), (0, xr 1024), (1, xi (↑s)), (2, xi 0), (3, xi 3)]) (st' := [xi 2]) rfl ?_
            refine ex_reti rfl rfl ?_
            refine ex_reti rfl rfl ?_
            refine ex_st 1 (pc' := 36) (ls' := [(0, xr 1014), (1, xi (↑s)), (2, xi 0)]) (st' := [xi 2]) rfl ?_
            refine ex_reti rfl rfl ?_
            refine ex_reti rfl rfl ?_
            exact ⟨x_req (by split <;> omega), rfl⟩
        · refine ex_st 1 (pc' := 24) (ls' := [(5, xi 1), (4, xi (↑s)), (0, xr 1024), (1, xi (↑s)), (2, xi 0), (3, xi 3)]) (st' := [xi 1]) rfl ?_
          refine ex_reti rfl rfl ?_
          refine ex_reti rfl rfl ?_
          refine ex_st 1 (pc' := 36) (ls' := [(0, xr 1014), (1, xi (↑s)), (2, xi 0)]) (st' := [xi 1]) rfl ?_
          refine ex_reti rfl rfl ?_
          refine ex_reti rfl rfl ?_
          exact ⟨x_req (by split <;> omega), rfl⟩
      · refine ex_st 1 (pc' := 24) (ls' := [(5, xi 0), (4, xi (↑s)), (0, xr 1024), (1, xi (↑s)), (2, xi 0), (3, xi 3)]) (st' := [xi 0]) rfl ?_
        refine ex_reti rfl rfl ?_
        refine ex_reti rfl rfl ?_
        refine ex_st 1 (pc' := 36) (ls' := [(0, xr 1014), (1, xi (↑s)), (2, xi 0)]) (st' := [xi 0]) rfl ?_
        refine ex_reti rfl rfl ?_
        refine ex_reti rfl rfl ?_
        exact ⟨x_req (by split <;> omega), rfl⟩
theorem p_nm_na (n : Nat) (tx : Nat → Nat) (a : Nat) (h : p_nm n tx a < 0) : p_na n tx a = a := by
  unfold p_nm at h
  unfold p_na
  split at h
  · next h1 =>
    have := p_dg_bd h1
    split at h
    · next h2 => have := p_dg_bd h2; omega
    · omega
  · next h1 => rw [if_neg h1]
/-- what a call of the reader leaves -/
def RPo (I : Nat → Nat → Int) (L : Nat → Nat → Int64) (T : Nat) (cs : List Int) (res : PR) (r : Option xPV) (m' : xMem) : Prop := r = some (xi (x_b (res.2.2 = true))) ∧ ∃ I', m' = (xSH, I', L) ∧ I' 85 2 = ((res.1 : Nat) : Int) ∧ (res.2.2 = true → CD I' T (cs ++ res.2.1)) ∧ ∀ k j, ¬ ((k = 85 ∧ j = 2) ∨ (k = T ∧ j = 5) ∨ k = T + 3) → I' k j = I k j
theorem ct_R_readTest {sc : List Int} {I : Nat → Nat → Int} {L : Nat → Nat → Int64} {n : Nat} {tx : Nat → Nat} (hT : TXc I n tx) {a : Nat} (ha : I 85 2 = (a : Int)) (han : a ≤ n) {T : Nat} (hTS : TS T) (hT4 : 104 ≤ T) {cs : List Int} (hC : CD I T cs) (hl : cs.length ≤ a) : x_CQ sc 10 xN_R_readTest [xr 85, xr T] (xSH, I, L) (fun r m' => RPo I L T cs (p_test n tx a) r m') := by
  have hn100 := hT.2.1
  refine x_CQ.of (M := xM_R_readTest) rfl (Nat.le_of_ble_eq_true rfl) ?_
  refine ex_st 4 (pc' := 7) (ls' := [(0, xr 85), (1, xr T)]) (st' := [xi (I 85 2), xr 85, xr 1013]) rfl ?_
  rw [ha]
  refine ex_call (ct_R_signAt (L := L) hT (p := a) (by omega)) (by decide) rfl ⟨rfl, rfl, rfl⟩ ⟨Nat.le_of_ble_eq_true rfl, rfl, rfl⟩ (Nat.le_of_ble_eq_true rfl) rfl ?_
  have b1 := p_lt_bd (pg n tx (a))
  refine ex_call (ct_S_idxL (L := L) (s := pg n tx (a)) (hT.lt _)) (by decide) rfl ⟨rfl, rfl, rfl⟩ ⟨Nat.le_of_ble_eq_true rfl, rfl, rfl⟩ (Nat.le_of_ble_eq_true rfl) rfl ?_
  refine ex_st 2 (pc' := 15) (ls' := [(2, xi (p_lt (pg n tx (a)))), (0, xr 85), (1, xr T)]) (st' := [xi (p_lt (pg n tx (a)))]) rfl ?_
  refine ex_if rfl (by first | omega | (constructor <;> omega) | assumption | exact x_bR _) (fun (h0 : ((0 : Int)) ≤ (p_lt (pg n tx (a)))) => ?_) (fun (h0 : ¬ ((0 : Int)) ≤ (p_lt (pg n tx (a)))) => ?_)
  · refine ex_st 3 (pc' := 25) (ls' := [(2, xi (p_lt (pg n tx (a)))), (0, xr 85), (1, xr T)]) (st' := [xi (I 85 2), xr 85]) rfl ?_
    rw [ha]
    refine ex_st 2 (pc' := 27) (ls' := [(2, xi (p_lt (pg n tx (a)))), (0, xr 85), (1, xr T)]) (st' := [xi ((↑a) + 1), xr 85]) rfl ?_
    refine ex_pfi rfl (by decide) (rfl : xSH[85]? = some _) (by decide) rfl (by decide) (fun h => by cases h) ?_
    generalize hMJ1 : (x_up I 85 2 ((↑a) + 1)) = J1
    have aJ1 : J1 85 2 = ((a + 1 : Nat) : Int) := by rw [← hMJ1, x_up_at]; rfl
    have gJ1 : ∀ k j, ¬ (k = 85 ∧ j = 2) → J1 k j = I k j := fun k j hk => by rw [← hMJ1]; exact x_up_far hk
    have fJ12 : ∀ k j, ¬ (k = 85 ∧ j = 2) → J1 k j = I k j := fun k j hk => by rw [gJ1 k j (by omega)]
    have fJ1 : ∀ k j, ¬ ((k = 85 ∧ j = 2) ∨ (k = T ∧ j = 5) ∨ k = T + 3) → J1 k j = I k j := fun k j hk => fJ12 k j (by omega)
    have tJ1 : TXc J1 n tx := hT.fr (fJ12 _ _ (by omega)) (fun j => fJ12 _ _ (by omega))
    refine ex_st 4 (pc' := 37) (ls' := [(2, xi (p_lt (pg n tx (a)))), (0, xr 85), (1, xr T)]) (st' := [xi (J1 85 2), xr 85, xr 1014]) rfl ?_
    rw [aJ1]
    refine ex_call (ct_R_signAt (L := L) tJ1 (p := a + 1) (by omega)) (by decide) rfl ⟨rfl, rfl, rfl⟩ ⟨Nat.le_of_ble_eq_true rfl, rfl, rfl⟩ (Nat.le_of_ble_eq_true rfl) rfl ?_
    obtain ⟨ri, hri⟩ : ∃ ri : Int, ri = (if 60 ≤ pg n tx (a + 1) ∧ pg n tx (a + 1) ≤ 62 then ((pg n tx (a + 1) : Nat) : Int) - 60 else -1) := ⟨_, rfl⟩
    refine ex_call (ct_S_idxR (L := L) (s := pg n tx (a + 1)) (hT.lt _)) (by decide) rfl ⟨rfl, rfl, rfl⟩ ⟨Nat.le_of_ble_eq_true rfl, rfl, rfl⟩ (Nat.le_of_ble_eq_true rfl) rfl ?_
    rw [← hri]
    refine ex_st 2 (pc' := 45) (ls' := [(3, xi ri), (2, xi (p_lt (pg n tx (a)))), (0, xr 85), (1, xr T)]) (st' := [xi ri]) rfl ?_
    refine ex_if rfl (by first | omega | (constructor <;> omega) | assumption | exact x_bR _) (fun (h1 : ((0 : Int)) ≤ ri) => ?_) (fun (h1 : ¬ ((0 : Int)) ≤ ri) => ?_)
    · refine ex_st 3 (pc' := 55) (ls' := [(3, xi ri), (2, xi (p_lt (pg n tx (a)))), (0, xr 85), (1, xr T)]) (st' := [xi (J1 85 2), xr 85]) rfl ?_
      rw [aJ1]
      refine ex_st 2 (pc' := 57) (ls' := [(3, xi ri), (2, xi (p_lt (pg n tx (a)))), (0, xr 85), (1, xr T)]) (st' := [xi ((↑(a + 1)) + 1), xr 85]) rfl ?_
      refine ex_pfi rfl (by decide) (rfl : xSH[85]? = some _) (by decide) rfl (by decide) (fun h => by cases h) ?_
      generalize hMJ2 : (x_up J1 85 2 ((↑(a + 1)) + 1)) = J2
      have aJ2 : J2 85 2 = ((a + 2 : Nat) : Int) := by rw [← hMJ2, x_up_at]; rfl
      have gJ2 : ∀ k j, ¬ (k = 85 ∧ j = 2) → J2 k j = J1 k j := fun k j hk => by rw [← hMJ2]; exact x_up_far hk
      have fJ22 : ∀ k j, ¬ (k = 85 ∧ j = 2) → J2 k j = I k j := fun k j hk => by rw [gJ2 k j (by omega), fJ12 k j (by omega)]
      have fJ2 : ∀ k j, ¬ ((k = 85 ∧ j = 2) ∨ (k = T ∧ j = 5) ∨ k = T + 3) → J2 k j = I k j := fun k j hk => fJ22 k j (by omega)
      have tJ2 : TXc J2 n tx := hT.fr (fJ22 _ _ (by omega)) (fun j => fJ22 _ _ (by omega))
      refine ex_st 1 (pc' := 61) (ls' := [(3, xi ri), (2, xi (p_lt (pg n tx (a)))), (0, xr 85), (1, xr T)]) (st' := [xr 85]) rfl ?_
      have k2 := pg_lt (n := n) (tx := tx) (a := a + 1) (by split at hri <;> omega)
      have b2 := p_nm_bd n tx (a + 2)
      have b3 := p_na_bd (n := n) (tx := tx) (a := a + 2) (by omega)
      refine ex_callQ (ct_R_readNumber (L := L) tJ2 aJ2 (by omega)) (by decide) rfl ⟨rfl, rfl, rfl⟩ ⟨Nat.le_of_ble_eq_true rfl, rfl, rfl⟩ (Nat.le_of_ble_eq_true rfl) rfl (fun ra m2 hQ => ?_)
      obtain ⟨rfl, J3, rfl, aJ3, gJ3⟩ := hQ
      have fJ32 : ∀ k j, ¬ (k = 85 ∧ j = 2) → J3 k j = I k j := fun k j hk => by rw [gJ3 k j (by omega), fJ22 k j (by omega)]
      have fJ3 : ∀ k j, ¬ ((k = 85 ∧ j = 2) ∨ (k = T ∧ j = 5) ∨ k = T + 3) → J3 k j = I k j := fun k j hk => fJ32 k j (by omega)
      have tJ3 : TXc J3 n tx := hT.fr (fJ32 _ _ (by omega)) (fun j => fJ32 _ _ (by omega))
      refine ex_st 2 (pc' := 68) (ls' := [(4, xi (p_nm n tx (a + 2))), (3, xi ri), (2, xi (p_lt (pg n tx (a)))), (0, xr 85), (1, xr T)]) (st' := [xi (p_nm n tx (a + 2))]) rfl ?_
      refine ex_if rfl (by first | omega | (constructor <;> omega) | assumption | exact x_bR _) (fun (h2 : ((0 : Int)) ≤ (p_nm n tx (a + 2))) => ?_) (fun (h2 : ¬ ((0 : Int)) ≤ (p_nm n tx (a + 2))) => ?_)
      · refine ex_st 4 (pc' := 78) (ls' := [(4, xi (p_nm n tx (a + 2))), (3, xi ri), (2, xi (p_lt (pg n tx (a)))), (0, xr 85), (1, xr T)]) (st' := [xi (p_nm n tx (a + 2)), xi ri, xi (p_lt (pg n tx (a))), xr T]) rfl ?_
        refine ex_call (ct_Tr_testCode (L := L)) (by decide) rfl ⟨rfl, rfl, rfl⟩ ⟨Nat.le_of_ble_eq_true rfl, rfl, rfl⟩ (Nat.le_of_ble_eq_true rfl) rfl ?_
        have hCJ3 : CD J3 T cs := hC.fr (by rw [fJ32 _ _ (by omega)]) (fun j => by rw [fJ32 _ _ (by omega)])
        have b4 := b3.2.2 (by omega)
        refine ex_callQ (ct_addC (L := L) hTS hCJ3 (by omega)) (by decide) rfl ⟨rfl, rfl, rfl⟩ ⟨Nat.le_of_ble_eq_true rfl, rfl, rfl⟩ (Nat.le_of_ble_eq_true rfl) (x_recv_v (by have := hTS.2.2.2.2; omega) hTS.1 (by decide)) (fun ra m2 hQ => ?_)
        obtain ⟨rfl, J4, rfl, hCJ4, gJ4⟩ := hQ
        have fJ4 : ∀ k j, ¬ ((k = 85 ∧ j = 2) ∨ (k = T ∧ j = 5) ∨ k = T + 3) → J4 k j = I k j := fun k j hk => by rw [gJ4 k j (by omega) (by omega), fJ3 k j (by omega)]
        have aJ4 : J4 85 2 = ((p_na n tx (a + 2) : Nat) : Int) := by rw [gJ4 _ _ (by omega) (by omega)]; exact aJ3
        refine ex_st 1 (pc' := 85) (ls' := [(4, xi (p_nm n tx (a + 2))), (3, xi ri), (2, xi (p_lt (pg n tx (a)))), (0, xr 85), (1, xr T)]) (st' := [xi 1]) rfl ?_
        refine ex_retz rfl (Or.inr rfl) rfl ?_
        have h4 : 60 ≤ pg n tx (a + 1) ∧ pg n tx (a + 1) ≤ 62 := by split at hri <;> omega
        have hri2 : ri = (pg n tx (a + 1) : Int) - 60 := by rw [hri, if_pos h4]
        have e9 : (p_test n tx a) = (p_na n tx (a + 2), [(p_lt (pg n tx a) * 3 + ((pg n tx (a + 1) : Int) - 60)) * 100 + p_nm n tx (a + 2)], true) := by unfold p_test; rw [if_neg (by omega), if_neg (fun q => q h4), if_neg (by omega)]
        rw [e9]
        rw [hri2] at hCJ4
        exact ⟨rfl, J4, rfl, aJ4, fun _ => hCJ4, fJ4⟩
      · refine ex_st 1 (pc' := 72) (ls' := [(4, xi (p_nm n tx (a + 2))), (3, xi ri), (2, xi (p_lt (pg n tx (a)))), (0, xr 85), (1, xr T)]) (st' := [xi 0]) rfl ?_
        refine ex_retz rfl (Or.inl rfl) rfl ?_
        have h4 : 60 ≤ pg n tx (a + 1) ∧ pg n tx (a + 1) ≤ 62 := by split at hri <;> omega
        have e9 : (p_test n tx a) = (a + 2, [], false) := by unfold p_test; rw [if_neg (by omega), if_neg (fun q => q h4), if_pos (by omega)]
        have e8 : p_na n tx (a + 2) = a + 2 := by have := p_nm_na n tx (a + 2) (by omega); exact this
        rw [e9]
        exact ⟨rfl, J3, rfl, by rw [aJ3]; show ((p_na n tx (a + 2) : Nat) : Int) = ((a + 2 : Nat) : Int); rw [e8], (fun q => by cases q), fJ3⟩
    · refine ex_st 1 (pc' := 49) (ls' := [(3, xi ri), (2, xi (p_lt (pg n tx (a)))), (0, xr 85), (1, xr T)]) (st' := [xi 0]) rfl ?_
      refine ex_retz rfl (Or.inl rfl) rfl ?_
      have h4 : ¬ (60 ≤ pg n tx (a + 1) ∧ pg n tx (a + 1) ≤ 62) := fun q => by rw [if_pos q] at hri; omega
      have e9 : (p_test n tx a) = (a + 1, [], false) := by unfold p_test; rw [if_neg (by omega), if_pos h4]
      rw [e9]
      exact ⟨rfl, J1, rfl, aJ1, (fun q => by cases q), fJ1⟩
  · refine ex_st 1 (pc' := 19) (ls' := [(2, xi (p_lt (pg n tx (a)))), (0, xr 85), (1, xr T)]) (st' := [xi 0]) rfl ?_
    refine ex_retz rfl (Or.inl rfl) rfl ?_
    have e9 : (p_test n tx a) = (a, [], false) := by unfold p_test; rw [if_pos (by omega)]
    rw [e9]
    exact ⟨rfl, I, rfl, ha, (fun q => by cases q), fun _ _ _ => rfl⟩
