/-! pair of calls: ends -/
/-- a row of a plan -/
def sp_pl (D : (Nat → Int) → Int → Nat → Int) (w k : Nat) (s : St4) : St4 := if w = 0 then sp_go D s else if w = 1 then (fun p => if p = k then 1 else s.1 p, s.2) else if w = 2 then (fun p => if p = k then 0 else s.1 p, s.2) else (s.1, (k : Int), s.2.2)
def sp_ps (D : (Nat → Int) → Int → Nat → Int) (wh nu : Nat → Nat) : Nat → Nat → St4 → St4
  | 0, _, s => s
  | k + 1, i, s => sp_ps D wh nu k (i + 1) (sp_pl D (wh i) (nu i) s)
theorem sp_pl_se {D : (Nat → Int) → Int → Nat → Int} {w k : Nat} {s : St4} : s.2.2.1 ≤ (sp_pl D w k s).2.2.1 ∧ (sp_pl D w k s).2.2.1 ≤ s.2.2.1 + 1 := by
  unfold sp_pl
  split
  · exact ⟨Nat.le_succ _, Nat.le_refl _⟩
  · split
    · exact ⟨Nat.le_refl _, Nat.le_succ _⟩
    · split
      · exact ⟨Nat.le_refl _, Nat.le_succ _⟩
      · exact ⟨Nat.le_refl _, Nat.le_succ _⟩
theorem SI.pl {D : (Nat → Int) → Int → Nat → Int} {w k : Nat} {s : St4} (h : SI s) (hk : w ≠ 0 → k ≤ 9) : SI (sp_pl D w k s) := by
  unfold sp_pl
  split
  · exact h.go
  · next h0 =>
    have := hk h0
    split
    · exact h
    · split
      · exact h
      · exact ⟨h.1, by show (0 : Int) ≤ (k : Int); omega, by show (k : Int) ≤ 9; omega⟩
theorem SI.ps {D : (Nat → Int) → Int → Nat → Int} {wh nu : Nat → Nat} : ∀ (u i : Nat) {s : St4}, SI s → (∀ y, y < i + u → wh y ≠ 0 → nu y ≤ 9) → SI (sp_ps D wh nu u i s)
  | 0, _, _, h, _ => h
  | u + 1, i, _, h, hn => SI.ps u (i + 1) (h.pl (hn i (by omega))) (fun y hy => hn y (by omega))
/-- a plan in the cells of the trial -/
def PLT (I : Nat → Nat → Int) (m : Nat) (wh nu : Nat → Nat) : Prop := I 63 2 = (m : Int) ∧ m ≤ 10 ∧ ∀ i, i < m → I 64 (i * 4 + 0) = (wh i : Int) ∧ wh i ≤ 3 ∧ (wh i ≠ 0 → I 64 (i * 4 + 1) = (nu i : Int) ∧ nu i ≤ 9 ∧ (wh i ≠ 3 → nu i ≤ 5))
def PLM (I : Nat → Nat → Int) (m : Nat) (wh nu : Nat → Nat) : Prop := I 143 43 = (m : Int) ∧ m ≤ 10 ∧ ∀ i, i < m → I 169 i = (wh i : Int) ∧ wh i ≤ 3 ∧ (wh i ≠ 0 → I 170 i = (nu i : Int) ∧ nu i ≤ 9 ∧ (wh i ≠ 3 → nu i ≤ 5))
theorem PLT.fr {I I' : Nat → Nat → Int} {m : Nat} {wh nu : Nat → Nat} (h : PLT I m wh nu) (e : ∀ k j, 63 ≤ k → k ≤ 64 → I' k j = I k j) : PLT I' m wh nu := by
  obtain ⟨h1, h2, h3⟩ := h
  refine ⟨by rw [e _ _ (by decide) (by decide)]; exact h1, h2, fun i hi => ?_⟩
  rw [e _ _ (by decide) (by decide), e _ _ (by decide) (by decide)]
  exact h3 i hi
theorem PLM.fr {I I' : Nat → Nat → Int} {m : Nat} {wh nu : Nat → Nat} (h : PLM I m wh nu) (e0 : I' 143 43 = I 143 43) (e : ∀ k j, 169 ≤ k → k ≤ 170 → I' k j = I k j) : PLM I' m wh nu := by
  obtain ⟨h1, h2, h3⟩ := h
  refine ⟨by rw [e0]; exact h1, h2, fun i hi => ?_⟩
  rw [e _ _ (by decide) (by decide), e _ _ (by decide) (by decide)]
  exact h3 i hi
theorem RNp.pl {I : Nat → Nat → Int} (h : RNp I) : ∃ m wh nu, PLM I m wh nu := by
  obtain ⟨h1, h2, h3, h4, h5⟩ := h
  obtain ⟨m, hm⟩ := Int.eq_ofNat_of_zero_le h2
  refine ⟨m, fun i => (I 169 i).toNat, fun i => (I 170 i).toNat, hm, by omega, fun i hi => ?_⟩
  obtain ⟨g1, g2, g3, g4⟩ := h5 i (by omega)
  refine ⟨by show _ = (((I 169 i).toNat : Nat) : Int); omega, by show (I 169 i).toNat ≤ 3; omega, fun hw => ?_⟩
  have hw2 : I 169 i ≠ 0 := fun e => hw (by show (I 169 i).toNat = 0; omega)
  obtain ⟨k1, k2, k3, k4⟩ := g4 hw2
  refine ⟨by show _ = (((I 170 i).toNat : Nat) : Int); omega, by show (I 170 i).toNat ≤ 9; omega, fun hw3 => ?_⟩
  have := k4 (fun e => hw3 (by show (I 169 i).toNat = 3; omega))
  show (I 170 i).toNat ≤ 5
  omega
theorem WB57.pl {I J : Nat → Nat → Int} (h : WB57_1 I J) (hp : RNp I) {m : Nat} {wh nu : Nat → Nat} (hm : PLM I m wh nu) : PLT J m wh nu := by
  obtain ⟨h1, h2, h3, h4, h5⟩ := hp
  obtain ⟨g1, g2, g3⟩ := hm
  have hb := h.2.2.2.2.2.1
  refine ⟨by rw [hb.1]; omega, g2, fun i hi => ?_⟩
  obtain ⟨k1, k2, k3⟩ := g3 i hi
  obtain ⟨q1, q2, q3, q4⟩ := h5 i (by omega)
  rw [hb.2 _ (by omega), hb.2 _ (by omega)]
  refine ⟨by rw [Nat.add_zero]; omega, k2, fun hw => ?_⟩
  obtain ⟨k4, k5, k6⟩ := k3 hw
  obtain ⟨q5, q6⟩ := q4 (by omega)
  exact ⟨by omega, k5, k6⟩
theorem SW.aw {I K : Nat → Nat → Int} {c : Nat} {kd : Nat → Nat} {vv vo : Nat → Int} {ba ro : Nat → Nat → Int} {s : St4} (hS : SW I 57 c kd vv vo ba ro s) {q : Nat} {v : Int} (hv : v = 0 ∨ v = 1) (hq : K (67 + 3 * q) 3 = v) (hK : ∀ k j, ¬ (k = 67 + 3 * q ∧ j = 3) → K k j = I k j) : SW K 57 c kd vv vo ba ro (fun p => if p = q then v else s.1 p, s.2) := by
  obtain ⟨hS1, hS2⟩ := hS
  have g7 := hS1.2.2.2.2.2.2
  refine ⟨hS1.gen (hK _ _ (by omega)) ⟨by rw [hK _ _ (by omega)]; exact hS1.2.2.1, hS1.2.2.2.1⟩ ⟨by rw [hK _ _ (by omega)]; exact hS1.2.2.2.2.1, hS1.2.2.2.2.2.1⟩ (fun p hp => ⟨hK _ _ (by omega), hK _ _ (by omega), fun j hj => hK _ _ (by omega)⟩) (fun p hp => ?_) (fun p hp => ?_) (fun p hp x hx => ?_), fun x hx => by rw [hK _ _ (by omega)]; exact hS2 x hx⟩
  · rw [hK _ _ (by omega)]; exact ⟨(g7 p hp).1.2.2.1, (g7 p hp).2.2.2.2.2.2.1⟩
  · by_cases e : p = q
    · subst e
      show _ = (if _ then _ else _) ∧ x_R (if _ then _ else _)
      rw [if_pos rfl]
      exact ⟨hq, by constructor <;> omega⟩
    · show _ = (if _ then _ else _) ∧ x_R (if _ then _ else _)
      rw [if_neg e, hK _ _ (by omega)]
      exact ⟨(g7 p hp).2.2.2.1, (g7 p hp).2.2.2.2.1⟩
  · rw [hK _ _ (by omega)]; exact (g7 p hp).2.2.2.2.2.1 x hx
theorem SW.eg {I K : Nat → Nat → Int} {c : Nat} {kd : Nat → Nat} {vv vo : Nat → Int} {ba ro : Nat → Nat → Int} {s : St4} (hS : SW I 57 c kd vv vo ba ro s) {e : Int} (he : 0 ≤ e ∧ e ≤ 99) (hq : K 57 5 = e) (hK : ∀ k j, ¬ (k = 57 ∧ j = 5) → K k j = I k j) : SW K 57 c kd vv vo ba ro (s.1, e, s.2.2) := by
  obtain ⟨hS1, hS2⟩ := hS
  exact ⟨hS1.set (fun k j a b => hK k j (by omega)) (hK _ _ (by omega)) ⟨hq, he⟩ ⟨by rw [hK _ _ (by omega)]; exact hS1.2.2.2.2.1, hS1.2.2.2.2.2.1⟩, fun x hx => by rw [hK _ _ (by omega)]; exact hS2 x hx⟩
theorem SM.aw {I K : Nat → Nat → Int} {c : Nat} {kd : Nat → Nat} {vv vo : Nat → Int} {ba ro : Nat → Nat → Int} {s : St4} (hS : SM I c kd vv vo ba ro s) {q g g' : Nat} {v : Int} {b : Bool} (hv : (v = 0 ∧ b = false) ∨ (v = 1 ∧ b = true)) (hg1 : I 143 1 = (g : Int)) (hg' : K 143 1 = (g' : Int)) (hg6 : g' < 64) (hgg : ∀ p, p < 6 → g'.testBit p = if p = q then b else g.testBit p) (hK : ∀ k j, ¬ (k = 143 ∧ j = 1) → K k j = I k j) : SM K c kd vv vo ba ro (fun p => if p = q then v else s.1 p, s.2) := by
  obtain ⟨hS1, hS2⟩ := hS
  have g8 := hS1.2.2.2.2.2.2.2
  have hc6 := hS1.2.1
  obtain ⟨g0, h1, h2, h3⟩ := hS1.2.2.2.2.2.2.1
  obtain rfl : g0 = g := by omega
  refine ⟨hS1.gen (hK _ _ (by omega)) ⟨by rw [hK _ _ (by omega)]; exact hS1.2.2.1, hS1.2.2.2.1⟩ ⟨by rw [hK _ _ (by omega)]; exact hS1.2.2.2.2.1, hS1.2.2.2.2.2.1⟩ ⟨g', hg', hg6, fun p hp => ?_⟩ (fun p hp => ⟨hK _ _ (by omega), hK _ _ (by omega), fun j hj => hK _ _ (by omega)⟩) (fun p hp => ?_) (fun p hp x hx => ?_), fun x hx => by rw [hK _ _ (by omega)]; exact hS2 x hx⟩
  · rw [hgg p (by omega)]
    by_cases e : p = q
    · show ((if _ then _ else _) = _ ∧ _) ∨ ((if _ then _ else _) = _ ∧ _)
      rw [if_pos e, if_pos e]
      exact hv
    · show ((if _ then _ else _) = _ ∧ _) ∨ ((if _ then _ else _) = _ ∧ _)
      rw [if_neg e, if_neg e]
      exact h3 p hp
  · rw [hK _ _ (by omega)]; exact ⟨(g8 p hp).2.2.1, (g8 p hp).2.2.2.1⟩
  · rw [hK _ _ (by omega)]; exact (g8 p hp).2.2.2.2.2.2.1 x hx
theorem SM.eg {I K : Nat → Nat → Int} {c : Nat} {kd : Nat → Nat} {vv vo : Nat → Int} {ba ro : Nat → Nat → Int} {s : St4} (hS : SM I c kd vv vo ba ro s) {e : Int} (he : 0 ≤ e ∧ e ≤ 99) (hq : K 143 3 = e) (hK : ∀ k j, ¬ (k = 143 ∧ j = 3) → K k j = I k j) : SM K c kd vv vo ba ro (s.1, e, s.2.2) := by
  obtain ⟨hS1, hS2⟩ := hS
  exact ⟨hS1.set (fun k j a b => hK k j (by omega)) (hK _ _ (by omega)) (hK _ _ (by omega)) ⟨hq, he⟩ ⟨by rw [hK _ _ (by omega)]; exact hS1.2.2.2.2.1, hS1.2.2.2.2.2.1⟩, fun x hx => by rw [hK _ _ (by omega)]; exact hS2 x hx⟩

theorem ct_m_goPlan0 {sc : List Int} {I : Nat → Nat → Int} {L : Nat → Nat → Int64} {c : Nat} {kd : Nat → Nat} {vv vo : Nat → Int} {ba ro : Nat → Nat → Int} {s : St4} (hS : SM I c kd vv vo ba ro s) (hI : SI s) (hse : s.2.2.1 < 50000) {cc : Nat} {cd we : Nat → Int} {en : Nat → Nat} {qv : Int} (hT : MT I cc cd we en qv) {n : Nat} {ag : Nat → Nat} (hn : I 143 2 = (n : Int)) (hn5 : n ≤ 5) (hag : ∀ k, k < n → I 150 k = (ag k : Int) ∧ ag k < 5) {md : Int} (hmd : I 143 32 = md) (hmr : x_R md) (hms : (s.2.2.1 : Int) + 1 ≤ md) {u : Nat} {x : Int} : x_CQ sc 28 xN_m_goPlan [xr 143, xi 0, xi x] (xSH, I, L) (fun r m' => r = none ∧ ∃ I', m' = (xSH, I', L) ∧ SM I' c kd vv vo ba ro (sp_pl (sp_D kd vv vo ba ro cd we en cc qv c n ag) 0 u s) ∧ ∀ k j, ¬ ((160 ≤ k ∧ k ≤ 162) ∨ (k = 143 ∧ (j = 1 ∨ j = 3 ∨ j = 4)) ∨ (k = 149 ∧ j < 5)) → I' k j = I k j) := by
  obtain ⟨g, hg1, hg, hgb⟩ := hS.1.2.2.2.2.2.2.1
  refine x_CQ.of (M := xM_m_goPlan) rfl (Nat.le_of_ble_eq_true rfl) ?_
  refine ex_st 1 (pc' := 1) (ls' := [(0, xr 143), (1, xi 0), (2, xi x)]) (st' := [xi 0]) rfl ?_
  refine ex_st 1 (pc' := 4) (ls' := [(0, xr 143), (1, xi 0), (2, xi x)]) (st' := []) rfl ?_
  refine ex_st 1 (pc' := 5) (ls' := [(0, xr 143), (1, xi 0), (2, xi x)]) (st' := [xr 143]) rfl ?_
  refine ex_callQ (ct_m_goSession (L := L) hS hI hse hT hn hn5 hag hmd hmr hms) (by decide) rfl ⟨rfl, rfl, rfl⟩ ⟨Nat.le_of_ble_eq_true rfl, rfl, rfl⟩ (Nat.le_of_ble_eq_true rfl) rfl (fun ra m2 hQ => ?_)
  obtain ⟨rfl, K, rfl, hSK, hK⟩ := hQ
  refine ex_st 4 (pc' := 12) (ls' := [(0, xr 143), (1, xi 0), (2, xi x)]) (st' := [xi 2, xi 1, xi 0, xr 143]) rfl ?_
  refine ex_call (ct_m_in (by first | omega | (constructor <;> omega) | assumption) (by first | omega | (constructor <;> omega) | assumption) (by first | omega | (constructor <;> omega) | assumption)) (by decide) rfl ⟨rfl, rfl, rfl⟩ ⟨Nat.le_of_ble_eq_true rfl, rfl, rfl⟩ (Nat.le_of_ble_eq_true rfl) rfl ?_
  refine ex_beq rfl (fun h0 => ?_) (fun h0 => ?_)
  · refine ex_st 2 (pc' := 35) (ls' := [(0, xr 143), (1, xi 0), (2, xi x)]) (st' := [xi 3, xi 0]) rfl ?_
    refine ex_st 1 (pc' := 43) (ls' := [(0, xr 143), (1, xi 0), (2, xi x)]) (st' := []) rfl ?_
    refine ex_retv rfl rfl ?_
    generalize hM : (K) = K9
    subst hM
    exact ⟨rfl, K, rfl, hSK, fun k j hk => hK k j (by unfold GFM; omega)⟩
  · exfalso; omega
theorem ct_m_goPlan1 {sc : List Int} {I : Nat → Nat → Int} {L : Nat → Nat → Int64} {c : Nat} {kd : Nat → Nat} {vv vo : Nat → Int} {ba ro : Nat → Nat → Int} {s : St4} (hS : SM I c kd vv vo ba ro s) (hI : SI s) (hse : s.2.2.1 < 50000) {cc : Nat} {cd we : Nat → Int} {en : Nat → Nat} {qv : Int} (hT : MT I cc cd we en qv) {n : Nat} {ag : Nat → Nat} (hn : I 143 2 = (n : Int)) (hn5 : n ≤ 5) (hag : ∀ k, k < n → I 150 k = (ag k : Int) ∧ ag k < 5) {md : Int} (hmd : I 143 32 = md) (hmr : x_R md) (hms : (s.2.2.1 : Int) + 1 ≤ md) {u : Nat} (hu : u ≤ 5) : x_CQ sc 28 xN_m_goPlan [xr 143, xi 1, xi (↑u)] (xSH, I, L) (fun r m' => r = none ∧ ∃ I', m' = (xSH, I', L) ∧ SM I' c kd vv vo ba ro (sp_pl (sp_D kd vv vo ba ro cd we en cc qv c n ag) 1 u s) ∧ ∀ k j, ¬ ((160 ≤ k ∧ k ≤ 162) ∨ (k = 143 ∧ (j = 1 ∨ j = 3 ∨ j = 4)) ∨ (k = 149 ∧ j < 5)) → I' k j = I k j) := by
  obtain ⟨g, hg1, hg, hgb⟩ := hS.1.2.2.2.2.2.2.1
  refine x_CQ.of (M := xM_m_goPlan) rfl (Nat.le_of_ble_eq_true rfl) ?_
  refine ex_st 1 (pc' := 1) (ls' := [(0, xr 143), (1, xi 1), (2, xi (↑u))]) (st' := [xi 1]) rfl ?_
  refine ex_st 1 (pc' := 8) (ls' := [(0, xr 143), (1, xi 1), (2, xi (↑u))]) (st' := []) rfl ?_
  refine ex_st 4 (pc' := 12) (ls' := [(0, xr 143), (1, xi 1), (2, xi (↑u))]) (st' := [xi 2, xi 1, xi 1, xr 143]) rfl ?_
  refine ex_call (ct_m_in (by first | omega | (constructor <;> omega) | assumption) (by first | omega | (constructor <;> omega) | assumption) (by first | omega | (constructor <;> omega) | assumption)) (by decide) rfl ⟨rfl, rfl, rfl⟩ ⟨Nat.le_of_ble_eq_true rfl, rfl, rfl⟩ (Nat.le_of_ble_eq_true rfl) rfl ?_
  refine ex_beq rfl (fun h0 => ?_) (fun h0 => ?_)
  · exfalso; omega
  · refine ex_st 4 (pc' := 22) (ls' := [(0, xr 143), (1, xi 1), (2, xi (↑u))]) (st' := [xi 1, xi 1, xi (↑u), xr 143]) rfl ?_
    refine ex_st 1 (pc' := 25) (ls' := [(0, xr 143), (1, xi 1), (2, xi (↑u))]) (st' := [xi (↑u), xr 143]) rfl ?_
    refine ex_st 2 (pc' := 30) (ls' := [(0, xr 143), (1, xi 1), (2, xi (↑u))]) (st' := [xi 1, xi (↑u), xr 143]) rfl ?_
    refine ex_inl (M' := xM_m_goes) (as := [xr 143, xi (↑u), xi 1]) (rest := []) (D' := 26) rfl (Nat.le_of_ble_eq_true rfl) (by decide) rfl ⟨rfl, rfl, rfl⟩ ⟨Nat.le_of_ble_eq_true rfl, rfl, rfl⟩ (Nat.le_of_ble_eq_true rfl) rfl ?_
    refine ex_st 2 (pc' := 2) (ls' := [(0, xr 143), (1, xi (↑u)), (2, xi 1)]) (st' := [xi 1, xr 143]) rfl ?_
    refine ex_st 1 (pc' := 5) (ls' := [(0, xr 143), (1, xi (↑u)), (2, xi 1)]) (st' := [xr 143]) rfl ?_
    refine ex_st 2 (pc' := 9) (ls' := [(0, xr 143), (1, xi (↑u)), (2, xi 1)]) (st' := [xi (I 143 1), xr 143]) rfl ?_
    rw [hg1]
    refine ex_st 5 (pc' := 26) (ls' := [(0, xr 143), (1, xi (↑u)), (2, xi 1)]) (st' := [xi (z_or (↑g) (z_shl 1 (↑u))), xr 143]) rfl ?_
    refine ex_pfi rfl (by decide) (rfl : xSH[143]? = some _) (by decide) rfl (by decide) (fun h => by cases h) ?_
    refine ex_retv rfl rfl ?_
    refine ex_st 2 (pc' := 35) (ls' := [(0, xr 143), (1, xi 1), (2, xi (↑u))]) (st' := [xi 3, xi 1]) rfl ?_
    refine ex_st 1 (pc' := 43) (ls' := [(0, xr 143), (1, xi 1), (2, xi (↑u))]) (st' := []) rfl ?_
    refine ex_retv rfl rfl ?_
    generalize hM : (x_up I 143 1 (z_or (↑g) (z_shl 1 (↑u)))) = K9
    have hKf : ∀ k j, ¬ (k = 143 ∧ j = 1) → K9 k j = I k j := fun k j hk => by rw [← hM]; (repeat rw [x_up_far (by omega)])
    have hKv : K9 143 1 = (z_or (↑g) (z_shl 1 (↑u))) := by rw [← hM]; exact x_up_at _ _ _ _
    obtain ⟨z1, z2, z3⟩ := z_set1 g hg u (by omega)
    exact ⟨rfl, K9, rfl, hS.aw (g' := (z_or (↑g) (z_shl 1 (↑u))).toNat) (b := true) (Or.inr ⟨rfl, rfl⟩) hg1 (by rw [hKv]; omega) (by omega) z3 hKf, fun k j hk => hKf k j (by omega)⟩
theorem ct_m_goPlan2 {sc : List Int} {I : Nat → Nat → Int} {L : Nat → Nat → Int64} {c : Nat} {kd : Nat → Nat} {vv vo : Nat → Int} {ba ro : Nat → Nat → Int} {s : St4} (hS : SM I c kd vv vo ba ro s) (hI : SI s) (hse : s.2.2.1 < 50000) {cc : Nat} {cd we : Nat → Int} {en : Nat → Nat} {qv : Int} (hT : MT I cc cd we en qv) {n : Nat} {ag : Nat → Nat} (hn : I 143 2 = (n : Int)) (hn5 : n ≤ 5) (hag : ∀ k, k < n → I 150 k = (ag k : Int) ∧ ag k < 5) {md : Int} (hmd : I 143 32 = md) (hmr : x_R md) (hms : (s.2.2.1 : Int) + 1 ≤ md) {u : Nat} (hu : u ≤ 5) : x_CQ sc 28 xN_m_goPlan [xr 143, xi 2, xi (↑u)] (xSH, I, L) (fun r m' => r = none ∧ ∃ I', m' = (xSH, I', L) ∧ SM I' c kd vv vo ba ro (sp_pl (sp_D kd vv vo ba ro cd we en cc qv c n ag) 2 u s) ∧ ∀ k j, ¬ ((160 ≤ k ∧ k ≤ 162) ∨ (k = 143 ∧ (j = 1 ∨ j = 3 ∨ j = 4)) ∨ (k = 149 ∧ j < 5)) → I' k j = I k j) := by
  obtain ⟨g, hg1, hg, hgb⟩ := hS.1.2.2.2.2.2.2.1
  refine x_CQ.of (M := xM_m_goPlan) rfl (Nat.le_of_ble_eq_true rfl) ?_
  refine ex_st 1 (pc' := 1) (ls' := [(0, xr 143), (1, xi 2), (2, xi (↑u))]) (st' := [xi 2]) rfl ?_
  refine ex_st 1 (pc' := 8) (ls' := [(0, xr 143), (1, xi 2), (2, xi (↑u))]) (st' := []) rfl ?_
  refine ex_st 4 (pc' := 12) (ls' := [(0, xr 143), (1, xi 2), (2, xi (↑u))]) (st' := [xi 2, xi 1, xi 2, xr 143]) rfl ?_
  refine ex_call (ct_m_in (by first | omega | (constructor <;> omega) | assumption) (by first | omega | (constructor <;> omega) | assumption) (by first | omega | (constructor <;> omega) | assumption)) (by decide) rfl ⟨rfl, rfl, rfl⟩ ⟨Nat.le_of_ble_eq_true rfl, rfl, rfl⟩ (Nat.le_of_ble_eq_true rfl) rfl ?_
  refine ex_beq rfl (fun h0 => ?_) (fun h0 => ?_)
  · exfalso; omega
  · refine ex_st 4 (pc' := 22) (ls' := [(0, xr 143), (1, xi 2), (2, xi (↑u))]) (st' := [xi 1, xi 2, xi (↑u), xr 143]) rfl ?_
    refine ex_st 1 (pc' := 29) (ls' := [(0, xr 143), (1, xi 2), (2, xi (↑u))]) (st' := [xi (↑u), xr 143]) rfl ?_
    refine ex_st 1 (pc' := 30) (ls' := [(0, xr 143), (1, xi 2), (2, xi (↑u))]) (st' := [xi 0, xi (↑u), xr 143]) rfl ?_
    refine ex_inl (M' := xM_m_goes) (as := [xr 143, xi (↑u), xi 0]) (rest := []) (D' := 26) rfl (Nat.le_of_ble_eq_true rfl) (by decide) rfl ⟨rfl, rfl, rfl⟩ ⟨Nat.le_of_ble_eq_true rfl, rfl, rfl⟩ (Nat.le_of_ble_eq_true rfl) rfl ?_
    refine ex_st 2 (pc' := 2) (ls' := [(0, xr 143), (1, xi (↑u)), (2, xi 0)]) (st' := [xi 0, xr 143]) rfl ?_
    refine ex_st 1 (pc' := 16) (ls' := [(0, xr 143), (1, xi (↑u)), (2, xi 0)]) (st' := [xr 143]) rfl ?_
    refine ex_st 2 (pc' := 20) (ls' := [(0, xr 143), (1, xi (↑u)), (2, xi 0)]) (st' := [xi (I 143 1), xr 143]) rfl ?_
    rw [hg1]
    refine ex_st 6 (pc' := 26) (ls' := [(0, xr 143), (1, xi (↑u)), (2, xi 0)]) (st' := [xi (z_and (↑g) (z_xor (z_shl 1 (↑u)) (-1))), xr 143]) rfl ?_
    refine ex_pfi rfl (by decide) (rfl : xSH[143]? = some _) (by decide) rfl (by decide) (fun h => by cases h) ?_
    refine ex_retv rfl rfl ?_
    refine ex_st 2 (pc' := 35) (ls' := [(0, xr 143), (1, xi 2), (2, xi (↑u))]) (st' := [xi 3, xi 2]) rfl ?_
    refine ex_st 1 (pc' := 43) (ls' := [(0, xr 143), (1, xi 2), (2, xi (↑u))]) (st' := []) rfl ?_
    refine ex_retv rfl rfl ?_
    generalize hM : (x_up I 143 1 (z_and (↑g) (z_xor (z_shl 1 (↑u)) (-1)))) = K9
    have hKf : ∀ k j, ¬ (k = 143 ∧ j = 1) → K9 k j = I k j := fun k j hk => by rw [← hM]; (repeat rw [x_up_far (by omega)])
    have hKv : K9 143 1 = (z_and (↑g) (z_xor (z_shl 1 (↑u)) (-1))) := by rw [← hM]; exact x_up_at _ _ _ _
    obtain ⟨z1, z2, z3⟩ := z_set0 g hg u (by omega)
    exact ⟨rfl, K9, rfl, hS.aw (g' := (z_and (↑g) (z_xor (z_shl 1 (↑u)) (-1))).toNat) (b := false) (Or.inl ⟨rfl, rfl⟩) hg1 (by rw [hKv]; omega) (by omega) z3 hKf, fun k j hk => hKf k j (by omega)⟩
theorem ct_m_goPlan3 {sc : List Int} {I : Nat → Nat → Int} {L : Nat → Nat → Int64} {c : Nat} {kd : Nat → Nat} {vv vo : Nat → Int} {ba ro : Nat → Nat → Int} {s : St4} (hS : SM I c kd vv vo ba ro s) (hI : SI s) (hse : s.2.2.1 < 50000) {cc : Nat} {cd we : Nat → Int} {en : Nat → Nat} {qv : Int} (hT : MT I cc cd we en qv) {n : Nat} {ag : Nat → Nat} (hn : I 143 2 = (n : Int)) (hn5 : n ≤ 5) (hag : ∀ k, k < n → I 150 k = (ag k : Int) ∧ ag k < 5) {md : Int} (hmd : I 143 32 = md) (hmr : x_R md) (hms : (s.2.2.1 : Int) + 1 ≤ md) {u : Nat} (hu : u ≤ 9) : x_CQ sc 28 xN_m_goPlan [xr 143, xi 3, xi (↑u)] (xSH, I, L) (fun r m' => r = none ∧ ∃ I', m' = (xSH, I', L) ∧ SM I' c kd vv vo ba ro (sp_pl (sp_D kd vv vo ba ro cd we en cc qv c n ag) 3 u s) ∧ ∀ k j, ¬ ((160 ≤ k ∧ k ≤ 162) ∨ (k = 143 ∧ (j = 1 ∨ j = 3 ∨ j = 4)) ∨ (k = 149 ∧ j < 5)) → I' k j = I k j) := by
  obtain ⟨g, hg1, hg, hgb⟩ := hS.1.2.2.2.2.2.2.1
  refine x_CQ.of (M := xM_m_goPlan) rfl (Nat.le_of_ble_eq_true rfl) ?_
  refine ex_st 1 (pc' := 1) (ls' := [(0, xr 143), (1, xi 3), (2, xi (↑u))]) (st' := [xi 3]) rfl ?_
  refine ex_st 1 (pc' := 8) (ls' := [(0, xr 143), (1, xi 3), (2, xi (↑u))]) (st' := []) rfl ?_
  refine ex_st 4 (pc' := 12) (ls' := [(0, xr 143), (1, xi 3), (2, xi (↑u))]) (st' := [xi 2, xi 1, xi 3, xr 143]) rfl ?_
  refine ex_call (ct_m_in (by first | omega | (constructor <;> omega) | assumption) (by first | omega | (constructor <;> omega) | assumption) (by first | omega | (constructor <;> omega) | assumption)) (by decide) rfl ⟨rfl, rfl, rfl⟩ ⟨Nat.le_of_ble_eq_true rfl, rfl, rfl⟩ (Nat.le_of_ble_eq_true rfl) rfl ?_
  refine ex_beq rfl (fun h0 => ?_) (fun h0 => ?_)
  · refine ex_st 2 (pc' := 35) (ls' := [(0, xr 143), (1, xi 3), (2, xi (↑u))]) (st' := [xi 3, xi 3]) rfl ?_
    refine ex_st 1 (pc' := 38) (ls' := [(0, xr 143), (1, xi 3), (2, xi (↑u))]) (st' := []) rfl ?_
    refine ex_st 2 (pc' := 40) (ls' := [(0, xr 143), (1, xi 3), (2, xi (↑u))]) (st' := [xi (↑u), xr 143]) rfl ?_
    refine ex_pfi rfl (by decide) (rfl : xSH[143]? = some _) (by decide) rfl (by decide) (fun h => by cases h) ?_
    refine ex_retv rfl rfl ?_
    generalize hM : (x_up I 143 3 (↑u)) = K9
    have hKf : ∀ k j, ¬ (k = 143 ∧ j = 3) → K9 k j = I k j := fun k j hk => by rw [← hM]; (repeat rw [x_up_far (by omega)])
    have hKv : K9 143 3 = (↑u) := by rw [← hM]; exact x_up_at _ _ _ _
    exact ⟨rfl, K9, rfl, hS.eg (by omega) hKv hKf, fun k j hk => hKf k j (by omega)⟩
  · exfalso; omega
theorem ct_m_goPlan {sc : List Int} {I : Nat → Nat → Int} {L : Nat → Nat → Int64} {c : Nat} {kd : Nat → Nat} {vv vo : Nat → Int} {ba ro : Nat → Nat → Int} {s : St4} (hS : SM I c kd vv vo ba ro s) (hI : SI s) (hse : s.2.2.1 < 50000) {cc : Nat} {cd we : Nat → Int} {en : Nat → Nat} {qv : Int} (hT : MT I cc cd we en qv) {n : Nat} {ag : Nat → Nat} (hn : I 143 2 = (n : Int)) (hn5 : n ≤ 5) (hag : ∀ k, k < n → I 150 k = (ag k : Int) ∧ ag k < 5) {md : Int} (hmd : I 143 32 = md) (hmr : x_R md) (hms : (s.2.2.1 : Int) + 1 ≤ md) {w u : Nat} {x : Int} (hw : w ≤ 3) (hu : w ≠ 0 → x = (u : Int) ∧ u ≤ 9 ∧ (w ≠ 3 → u ≤ 5)) : x_CQ sc 28 xN_m_goPlan [xr 143, xi (↑w), xi x] (xSH, I, L) (fun r m' => r = none ∧ ∃ I', m' = (xSH, I', L) ∧ SM I' c kd vv vo ba ro (sp_pl (sp_D kd vv vo ba ro cd we en cc qv c n ag) w u s) ∧ ∀ k j, ¬ ((160 ≤ k ∧ k ≤ 162) ∨ (k = 143 ∧ (j = 1 ∨ j = 3 ∨ j = 4)) ∨ (k = 149 ∧ j < 5)) → I' k j = I k j) := by
  rcases (show w = 0 ∨ w = 1 ∨ w = 2 ∨ w = 3 by omega) with rfl | rfl | rfl | rfl
  · exact ct_m_goPlan0 hS hI hse hT hn hn5 hag hmd hmr hms
  · obtain ⟨rfl, h2, h3⟩ := hu (by decide)
    exact ct_m_goPlan1 hS hI hse hT hn hn5 hag hmd hmr hms (h3 (by decide))
  · obtain ⟨rfl, h2, h3⟩ := hu (by decide)
    exact ct_m_goPlan2 hS hI hse hT hn hn5 hag hmd hmr hms (h3 (by decide))
  · obtain ⟨rfl, h2, h3⟩ := hu (by decide)
    exact ct_m_goPlan3 hS hI hse hT hn hn5 hag hmd hmr hms h2
theorem lp_mend {sc : List Int} {L : Nat → Nat → Int64} {c : Nat} {kd : Nat → Nat} {vv vo : Nat → Int} {ba ro : Nat → Nat → Int} {cc : Nat} {cd we : Nat → Int} {en : Nat → Nat} {qv : Int} {n : Nat} {ag : Nat → Nat} {Q : Option xPV → xMem → Prop} {w1 : Int} {m : Nat} {wh nu : Nat → Nat} (i : Nat) (hi : i ≤ m) (s : St4) (I : Nat → Nat → Int) (hS : SM I c kd vv vo ba ro s) (hI : SI s) (hse : s.2.2.1 + (m - i) < 50000) (hT : MT I cc cd we en qv) (hn : I 143 2 = (n : Int)) (hn5 : n ≤ 5) (hag : ∀ k, k < n → I 150 k = (ag k : Int) ∧ ag k < 5) {md : Int} (hmd : I 143 32 = md) (hmr : x_R md) (hms : (s.2.2.1 : Int) + (m - i : Nat) ≤ md) (hP : PLM I m wh nu) (kk : ∀ I' : Nat → Nat → Int, SM I' c kd vv vo ba ro (sp_ps (sp_D kd vv vo ba ro cd we en cc qv c n ag) wh nu (m - i) i s) → (∀ k j, ¬ ((160 ≤ k ∧ k ≤ 162) ∨ (k = 143 ∧ (j = 1 ∨ j = 3 ∨ j = 4)) ∨ (k = 149 ∧ j < 5)) → I' k j = I k j) → x_Ex sc 29 xM_m_ends 48 [(2, xi (↑m)), (0, xr 143), (1, xi w1)] [] (xSH, I', L) Q) : x_Ex sc 29 xM_m_ends 18 [(2, xi (↑i)), (0, xr 143), (1, xi w1)] [] (xSH, I, L) Q := by
  obtain ⟨hP1, hP2, hP3⟩ := id hP
  refine ex_st 3 (pc' := 23) (ls' := [(2, xi (↑i)), (0, xr 143), (1, xi w1)]) (st' := [xi (I 143 43), xi (↑i)]) rfl ?_
  rw [hP1]
  refine ex_ic rfl (by constructor <;> omega) (by constructor <;> omega) (fun (h0 : (↑m : Int) ≤ (↑i : Int)) => ?_) (fun (h0 : ¬ (↑m : Int) ≤ (↑i : Int)) => ?_)
  · obtain rfl : i = m := by omega
    rw [show i - i = 0 by omega] at kk
    exact kk I hS (fun _ _ _ => rfl)
  · obtain ⟨p1, p2, p3⟩ := hP3 i (by omega)
    refine ex_st 4 (pc' := 32) (ls' := [(2, xi (↑i)), (0, xr 143), (1, xi w1)]) (st' := [xi (↑i), xr 169, xr 143]) rfl ?_
    refine ex_iald (j := i) rfl (by decide) (rfl : xSH[169]? = some _) rfl (by omega) (by decide) ?_
    rw [p1]
    refine ex_st 3 (pc' := 38) (ls' := [(2, xi (↑i)), (0, xr 143), (1, xi w1)]) (st' := [xi (↑i), xr 170, xi (↑(wh i)), xr 143]) rfl ?_
    refine ex_iald (j := i) rfl (by decide) (rfl : xSH[170]? = some _) rfl (by omega) (by decide) ?_
    refine ex_callQ (ct_m_goPlan (L := L) hS hI (by omega) hT hn hn5 hag hmd hmr (by omega) (w := wh i) (u := nu i) (x := I 170 i) p2 p3) (by decide) rfl ⟨rfl, rfl, rfl⟩ ⟨Nat.le_of_ble_eq_true rfl, rfl, rfl⟩ (Nat.le_of_ble_eq_true rfl) rfl (fun ra m2 hQ => ?_)
    obtain ⟨rfl, I1, rfl, hS1, hF1⟩ := hQ
    refine ex_st 2 (pc' := 18) (ls' := [(2, xi ((↑i) + 1)), (0, xr 143), (1, xi w1)]) (st' := []) rfl ?_
    have hsu : (sp_ps (sp_D kd vv vo ba ro cd we en cc qv c n ag) wh nu (m - i) i s) = (sp_ps (sp_D kd vv vo ba ro cd we en cc qv c n ag) wh nu (m - (i + 1)) (i + 1) (sp_pl (sp_D kd vv vo ba ro cd we en cc qv c n ag) (wh i) (nu i) s)) := by rw [show m - i = (m - (i + 1)) + 1 by omega]; rfl
    have hse1 := sp_pl_se (D := (sp_D kd vv vo ba ro cd we en cc qv c n ag)) (w := wh i) (k := nu i) (s := s)
    refine ex_pm _ (fun i => by rcases i with _ | _ | _ | _ | _ | _ | _ | _ | _ | i <;> first | (right; rfl) | (left; rfl)) (lp_mend (i + 1) (by omega) (sp_pl (sp_D kd vv vo ba ro cd we en cc qv c n ag) (wh i) (nu i) s) I1 hS1 (hI.pl (fun hw => (p3 hw).2.1)) (by omega) (hT.fr3 (hF1 _ _ (by omega)) (fun k j a b => hF1 _ _ (by omega))) (by rw [hF1 _ _ (by omega)]; exact hn) hn5 (fun k hk => by rw [hF1 _ _ (by omega)]; exact hag k hk) (by rw [hF1 _ _ (by omega)]; exact hmd) hmr (by omega) (hP.fr (hF1 _ _ (by omega)) (fun k j a b => hF1 _ _ (by omega))) (fun I' g1 g2 => ?_))
    rw [← hsu] at g1
    exact kk I' g1 (fun k j hk => by rw [g2 k j hk, hF1 k j hk])
termination_by m - i
decreasing_by all_goals omega
theorem lp_mset {sc : List Int} {I : Nat → Nat → Int} {L : Nat → Nat → Int64} {Q : Option xPV → xMem → Prop} {w1 : Int} {f : Nat → Int} (hf : ∀ x, x < 5 → I 149 x = f x ∧ x_R (f x)) (i : Nat) (hi : i ≤ 5) (acc : Nat) (hacc : (acc : Int) = sp_mask (sp_pos f) i) (kk : x_Ex sc 29 xM_m_ends 82 [(3, xi 5), (2, xi (sp_mask (sp_pos f) 5)), (0, xr 143), (1, xi w1)] [] (xSH, I, L) Q) : x_Ex sc 29 xM_m_ends 52 [(3, xi (↑i)), (2, xi (↑acc)), (0, xr 143), (1, xi w1)] [] (xSH, I, L) Q := by
  refine ex_st 2 (pc' := 54) (ls' := [(3, xi (↑i)), (2, xi (↑acc)), (0, xr 143), (1, xi w1)]) (st' := [xi 5, xi (↑i)]) rfl ?_
  refine ex_ic rfl (by constructor <;> omega) (by decide) (fun (h0 : (5 : Int) ≤ (↑i : Int)) => ?_) (fun (h0 : ¬ (5 : Int) ≤ (↑i : Int)) => ?_)
  · obtain rfl : i = 5 := by omega
    rw [hacc]
    exact kk
  · have hb := sp_mask_bd (sp_pos f) i
    have hpw : (2 : Int) ^ i ≤ 16 := by rcases (show i = 0 ∨ i = 1 ∨ i = 2 ∨ i = 3 ∨ i = 4 by omega) with rfl | rfl | rfl | rfl | rfl <;> decide
    refine ex_st 4 (pc' := 63) (ls' := [(3, xi (↑i)), (2, xi (↑acc)), (0, xr 143), (1, xi w1)]) (st' := [xi (↑i), xr 149, xi (↑acc)]) rfl ?_
    refine ex_iald (j := i) rfl (by decide) (rfl : xSH[149]? = some _) rfl (by omega) (by decide) ?_
    rw [(hf i (by omega)).1]
    refine ex_if rfl (hf i (by omega)).2 (fun (h1 : f i ≤ 0) => ?_) (fun (h1 : ¬ f i ≤ 0) => ?_)
    · refine ex_st 1 (pc' := 74) (ls' := [(3, xi (↑i)), (2, xi (↑acc)), (0, xr 143), (1, xi w1)]) (st' := [xi 0, xi (↑acc)]) rfl ?_
      refine ex_st 4 (pc' := 52) (ls' := [(3, xi ((↑i) + 1)), (2, xi (z_or (↑acc) 0)), (0, xr 143), (1, xi w1)]) (st' := []) rfl ?_
      rw [z_or0 acc (by omega)]
      have e9 : sp_mask (sp_pos f) (i + 1) = sp_mask (sp_pos f) i := by
        simp only [sp_mask]; rw [if_neg (by unfold sp_pos; simp; omega), Int.add_zero]
      exact lp_mset hf (i + 1) (by omega) acc (by rw [e9]; exact hacc) kk
    · refine ex_st 4 (pc' := 74) (ls' := [(3, xi (↑i)), (2, xi (↑acc)), (0, xr 143), (1, xi w1)]) (st' := [xi (z_shl 1 (↑i)), xi (↑acc)]) rfl ?_
      refine ex_st 4 (pc' := 52) (ls' := [(3, xi ((↑i) + 1)), (2, xi (z_or (↑acc) (z_shl 1 (↑i)))), (0, xr 143), (1, xi w1)]) (st' := []) rfl ?_
      have e9 : sp_mask (sp_pos f) (i + 1) = z_or (↑acc) (z_shl 1 (↑i)) := by
        rw [hacc, sp_mask_or (sp_pos f) (i := i) (by omega)]
        simp only [sp_mask]; rw [if_pos (by unfold sp_pos; simp; omega)]
      have hb9 := sp_mask_bd (sp_pos f) (i + 1)
      obtain ⟨a9, ha9⟩ := Int.eq_ofNat_of_zero_le hb9.1
      rw [← e9, ha9]
      exact lp_mset hf (i + 1) (by omega) a9 ha9.symm kk
termination_by 5 - i
decreasing_by all_goals omega
set_option maxRecDepth 8000 in
set_option maxHeartbeats 1000000 in
theorem lp_Gend {sc : List Int} {L : Nat → Nat → Int64} {c : Nat} {kd : Nat → Nat} {vv vo : Nat → Int} {ba ro : Nat → Nat → Int} {t : Int} {T nn cc : Nat} {cd we : Nat → Int} {en : Nat → Nat} {qv : Int} {n : Nat} {ag : Nat → Nat} {Q : Option xPV → xMem → Prop} {w1 : Int} {m : Nat} {wh nu : Nat → Nat} (i : Nat) (hi : i ≤ m) (s : St4) (I : Nat → Nat → Int) (hS : SW I 57 c kd vv vo ba ro s) (hI : SI s) (hse : s.2.2.1 + (m - i) < 50000) (hX : TRx I t T nn cc cd we en qv) (ht : I 57 7 = t) (hn : I 57 4 = (n : Int)) (hn5 : n ≤ 5) (hag : ∀ k, k < n → I 60 k = (ag k : Int) ∧ ag k < 5) (hP : PLT I m wh nu) (kk : ∀ I' : Nat → Nat → Int, SW I' 57 c kd vv vo ba ro (sp_ps (sp_D kd vv vo ba ro cd we en cc qv c n ag) wh nu (m - i) i s) → (∀ k j, ¬ ((92 ≤ k ∧ k ≤ 102) ∨ (k = 57 ∧ (j = 5 ∨ j = 6)) ∨ (k = 59 ∧ j < 5) ∨ (67 ≤ k ∧ k ≤ 84 ∧ j = 3)) → I' k j = I k j) → x_Ex sc 29 xM_G_ends 99 [(2, xi (↑m)), (0, xr 0), (1, xi w1)] [] (xSH, I', L) Q) : x_Ex sc 29 xM_G_ends 22 [(2, xi (↑i)), (0, xr 0), (1, xi w1)] [] (xSH, I, L) Q := by
  obtain ⟨hP1, hP2, hP3⟩ := id hP
  refine ex_st 5 (pc' := 33) (ls' := [(2, xi (↑i)), (0, xr 0), (1, xi w1)]) (st' := [xi (I 63 2), xi (↑i)]) rfl ?_
  rw [hP1]
  refine ex_ic rfl (by first | omega | (constructor <;> omega) | assumption) (by first | omega | (constructor <;> omega) | assumption) (fun (h0 : (↑m : Int) ≤ (↑i : Int)) => ?_) (fun (h0 : ¬ (↑m : Int) ≤ (↑i : Int)) => ?_)
  · obtain rfl : i = m := by omega
    rw [show i - i = 0 by omega] at kk
    exact kk I hS (fun _ _ _ => rfl)
  · obtain ⟨p1, p2, p3⟩ := hP3 i (by omega)
    refine ex_st 5 (pc' := 45) (ls' := [(2, xi (↑i)), (0, xr 0), (1, xi w1)]) (st' := [xi 0, xi (↑i), xr 63]) rfl ?_
    have hrw : x_CE sc 1 xN_Rw_at [xr 63, xi (↑i), xi 0] (xSH, I, L) (some (xi (↑(wh i)))) (xSH, I, L) := by
      have h9 := ct_Rw_at (sc := sc) (I := I) (L := L) (A := 63) (cap := 10) rfl rfl (by decide) (by decide) (a := i) (b := 0) (by omega) (by decide)
      rw [show I (63 + 1) (i * 4 + 0) = ((wh i : Nat) : Int) from p1] at h9
      exact h9
    refine ex_call hrw (by decide) rfl ⟨rfl, rfl, rfl⟩ ⟨Nat.le_of_ble_eq_true rfl, rfl, rfl⟩ (Nat.le_of_ble_eq_true rfl) rfl ?_
    refine ex_if rfl (by first | omega | (constructor <;> omega) | assumption) (fun (h1 : ¬ (↑(wh i) : Int) = 0) => ?_) (fun (h1 : ¬ ¬ (↑(wh i) : Int) = 0) => ?_)
    · refine ex_st 7 (pc' := 75) (ls' := [(2, xi (↑i)), (0, xr 0), (1, xi w1)]) (st' := [xi 0, xi (↑i), xr 63, xr 57]) rfl ?_
      have hrw : x_CE sc 1 xN_Rw_at [xr 63, xi (↑i), xi 0] (xSH, I, L) (some (xi (↑(wh i)))) (xSH, I, L) := by
        have h9 := ct_Rw_at (sc := sc) (I := I) (L := L) (A := 63) (cap := 10) rfl rfl (by decide) (by decide) (a := i) (b := 0) (by omega) (by decide)
        rw [show I (63 + 1) (i * 4 + 0) = ((wh i : Nat) : Int) from p1] at h9
        exact h9
      refine ex_call hrw (by decide) rfl ⟨rfl, rfl, rfl⟩ ⟨Nat.le_of_ble_eq_true rfl, rfl, rfl⟩ (Nat.le_of_ble_eq_true rfl) rfl ?_
      refine ex_st 5 (pc' := 87) (ls' := [(2, xi (↑i)), (0, xr 0), (1, xi w1)]) (st' := [xi 1, xi (↑i), xr 63, xi (↑(wh i)), xr 57]) rfl ?_
      obtain ⟨p4, p5, p6⟩ := p3 (by omega)
      obtain ⟨q, hq⟩ : ∃ q : Nat, q = nu i := ⟨_, rfl⟩
      rw [← hq] at p4 p5 p6
      have hrw : x_CE sc 1 xN_Rw_at [xr 63, xi (↑i), xi 1] (xSH, I, L) (some (xi (↑q))) (xSH, I, L) := by
        have h9 := ct_Rw_at (sc := sc) (I := I) (L := L) (A := 63) (cap := 10) rfl rfl (by decide) (by decide) (a := i) (b := 1) (by omega) (by decide)
        rw [show I (63 + 1) (i * 4 + 1) = ((q : Nat) : Int) from p4] at h9
        exact h9
      refine ex_call hrw (by decide) rfl ⟨rfl, rfl, rfl⟩ ⟨Nat.le_of_ble_eq_true rfl, rfl, rfl⟩ (Nat.le_of_ble_eq_true rfl) rfl ?_
      refine ex_inl (M' := xM_W_follow) (as := [xr 57, xi (↑(wh i)), xi (↑q)]) (rest := []) (D' := 28) rfl (Nat.le_of_ble_eq_true rfl) (by decide) rfl ⟨rfl, rfl, rfl⟩ ⟨Nat.le_of_ble_eq_true rfl, rfl, rfl⟩ (Nat.le_of_ble_eq_true rfl) rfl ?_
      refine ex_st 1 (pc' := 1) (ls' := [(0, xr 57), (1, xi (↑(wh i))), (2, xi (↑q))]) (st' := [xi (↑(wh i))]) rfl ?_
      by_cases h2 : (↑(wh i) : Int) = 1
      · refine ex_top h2 ?_
        refine ex_st 1 (pc' := 28) (ls' := [(0, xr 57), (1, xi (↑(wh i))), (2, xi (↑q))]) (st' := []) rfl ?_
        refine ex_st 3 (pc' := 33) (ls' := [(0, xr 57), (1, xi (↑(wh i))), (2, xi (↑q))]) (st' := [xi (↑q), xr 58]) rfl ?_
        refine ex_aald (q := 67 + 3 * q) (j := q) rfl (by decide) (rfl : xSH[58]? = some _) (by decide) (by omega) (by omega) (by decide) (x_aa58 q (by omega)) (by omega) ?_
        refine ex_st 1 (pc' := 35) (ls' := [(0, xr 57), (1, xi (↑(wh i))), (2, xi (↑q))]) (st' := [xi 1, xr (67 + 3 * q)]) rfl ?_
        refine ex_pfi rfl (by omega) (x_so57 q (by omega)).1 (by decide) rfl (by decide) (fun _ => by first | exact x_b01 _ | simp | omega) ?_
        refine ex_st 1 (pc' := 59) (ls' := [(0, xr 57), (1, xi (↑(wh i))), (2, xi (↑q))]) (st' := []) rfl ?_
        refine ex_retv rfl rfl ?_
        refine ex_st 2 (pc' := 22) (ls' := [(2, xi ((↑i) + 1)), (0, xr 0), (1, xi w1)]) (st' := []) rfl ?_
        generalize hM : (x_up I (67 + 3 * q) 3 1) = I1
        have hKf : ∀ k j, ¬ (k = 67 + 3 * q ∧ j = 3) → I1 k j = I k j := fun k j hk => by rw [← hM]; exact x_up_far hk
        have hKv : I1 (67 + 3 * q) 3 = 1 := by rw [← hM]; exact x_up_at _ _ _ _
        have hF1 : ∀ k j, ¬ ((92 ≤ k ∧ k ≤ 102) ∨ (k = 57 ∧ (j = 5 ∨ j = 6)) ∨ (k = 59 ∧ j < 5) ∨ (67 ≤ k ∧ k ≤ 84 ∧ j = 3)) → I1 k j = I k j := fun k j hk => hKf k j (by omega)
        have hpl : sp_pl (sp_D kd vv vo ba ro cd we en cc qv c n ag) (wh i) (nu i) s = (fun p => if p = q then 1 else s.1 p, s.2) := by unfold sp_pl; rw [if_neg (by omega), if_pos (by omega), hq]
        have hS1 := hS.aw (q := q) (v := 1) (by omega) hKv hKf
        have hsu : (sp_ps (sp_D kd vv vo ba ro cd we en cc qv c n ag) wh nu (m - i) i s) = (sp_ps (sp_D kd vv vo ba ro cd we en cc qv c n ag) wh nu (m - (i + 1)) (i + 1) (sp_pl (sp_D kd vv vo ba ro cd we en cc qv c n ag) (wh i) (nu i) s)) := by rw [show m - i = (m - (i + 1)) + 1 by omega]; rfl
        rw [← hpl] at hS1
        have hse1 := sp_pl_se (D := (sp_D kd vv vo ba ro cd we en cc qv c n ag)) (w := wh i) (k := nu i) (s := s)
        refine ex_pm _ (fun i => by rcases i with _ | _ | _ | _ | _ | _ | _ | _ | _ | i <;> first | (right; rfl) | (left; rfl)) (lp_Gend (i + 1) (by omega) _ I1 hS1 (hI.pl (fun hw => (p3 hw).2.1)) (by omega) (hX.fr (fun k j a b => hF1 _ _ (by omega))) (by rw [hF1 _ _ (by omega)]; exact ht) (by rw [hF1 _ _ (by omega)]; exact hn) hn5 (fun k hk => by rw [hF1 _ _ (by omega)]; exact hag k hk) (hP.fr (fun k j a b => hF1 _ _ (by omega))) (fun I' g1 g2 => ?_))
        rw [← hsu] at g1
        exact kk I' g1 (fun k j hk => by rw [g2 k j hk, hF1 k j hk])
      by_cases h3 : (↑(wh i) : Int) = 2
      · refine ex_top h3 ?_
        refine ex_st 1 (pc' := 41) (ls' := [(0, xr 57), (1, xi (↑(wh i))), (2, xi (↑q))]) (st' := []) rfl ?_
        refine ex_st 3 (pc' := 46) (ls' := [(0, xr 57), (1, xi (↑(wh i))), (2, xi (↑q))]) (st' := [xi (↑q), xr 58]) rfl ?_
        refine ex_aald (q := 67 + 3 * q) (j := q) rfl (by decide) (rfl : xSH[58]? = some _) (by decide) (by omega) (by omega) (by decide) (x_aa58 q (by omega)) (by omega) ?_
        refine ex_st 1 (pc' := 48) (ls' := [(0, xr 57), (1, xi (↑(wh i))), (2, xi (↑q))]) (st' := [xi 0, xr (67 + 3 * q)]) rfl ?_
        refine ex_pfi rfl (by omega) (x_so57 q (by omega)).1 (by decide) rfl (by decide) (fun _ => by first | exact x_b01 _ | simp | omega) ?_
        refine ex_st 1 (pc' := 59) (ls' := [(0, xr 57), (1, xi (↑(wh i))), (2, xi (↑q))]) (st' := []) rfl ?_
        refine ex_retv rfl rfl ?_
        refine ex_st 2 (pc' := 22) (ls' := [(2, xi ((↑i) + 1)), (0, xr 0), (1, xi w1)]) (st' := []) rfl ?_
        generalize hM : (x_up I (67 + 3 * q) 3 0) = I1
        have hKf : ∀ k j, ¬ (k = 67 + 3 * q ∧ j = 3) → I1 k j = I k j := fun k j hk => by rw [← hM]; exact x_up_far hk
        have hKv : I1 (67 + 3 * q) 3 = 0 := by rw [← hM]; exact x_up_at _ _ _ _
        have hF1 : ∀ k j, ¬ ((92 ≤ k ∧ k ≤ 102) ∨ (k = 57 ∧ (j = 5 ∨ j = 6)) ∨ (k = 59 ∧ j < 5) ∨ (67 ≤ k ∧ k ≤ 84 ∧ j = 3)) → I1 k j = I k j := fun k j hk => hKf k j (by omega)
        have hpl : sp_pl (sp_D kd vv vo ba ro cd we en cc qv c n ag) (wh i) (nu i) s = (fun p => if p = q then 0 else s.1 p, s.2) := by unfold sp_pl; rw [if_neg (by omega), if_neg (by omega), if_pos (by omega), hq]
        have hS1 := hS.aw (q := q) (v := 0) (by omega) hKv hKf
        have hsu : (sp_ps (sp_D kd vv vo ba ro cd we en cc qv c n ag) wh nu (m - i) i s) = (sp_ps (sp_D kd vv vo ba ro cd we en cc qv c n ag) wh nu (m - (i + 1)) (i + 1) (sp_pl (sp_D kd vv vo ba ro cd we en cc qv c n ag) (wh i) (nu i) s)) := by rw [show m - i = (m - (i + 1)) + 1 by omega]; rfl
        rw [← hpl] at hS1
        have hse1 := sp_pl_se (D := (sp_D kd vv vo ba ro cd we en cc qv c n ag)) (w := wh i) (k := nu i) (s := s)
        refine ex_pm _ (fun i => by rcases i with _ | _ | _ | _ | _ | _ | _ | _ | _ | i <;> first | (right; rfl) | (left; rfl)) (lp_Gend (i + 1) (by omega) _ I1 hS1 (hI.pl (fun hw => (p3 hw).2.1)) (by omega) (hX.fr (fun k j a b => hF1 _ _ (by omega))) (by rw [hF1 _ _ (by omega)]; exact ht) (by rw [hF1 _ _ (by omega)]; exact hn) hn5 (fun k hk => by rw [hF1 _ _ (by omega)]; exact hag k hk) (hP.fr (fun k j a b => hF1 _ _ (by omega))) (fun I' g1 g2 => ?_))
        rw [← hsu] at g1
        exact kk I' g1 (fun k j hk => by rw [g2 k j hk, hF1 k j hk])
      refine ex_lswd rfl (by first | omega | (constructor <;> omega) | assumption) (by first | (simp only [Op.lookupswitch.offset]; simp; omega) | (simp only [Op.lookupswitch.offset]; repeat rw [if_neg (by omega)])) ?_
      refine ex_st 2 (pc' := 56) (ls' := [(0, xr 57), (1, xi (↑(wh i))), (2, xi (↑q))]) (st' := [xi (↑q), xr 57]) rfl ?_
      refine ex_pfi rfl (by decide) (rfl : xSH[57]? = some _) (by decide) rfl (by decide) (fun h => by cases h) ?_
      refine ex_retv rfl rfl ?_
      refine ex_st 2 (pc' := 22) (ls' := [(2, xi ((↑i) + 1)), (0, xr 0), (1, xi w1)]) (st' := []) rfl ?_
      generalize hM : (x_up I 57 5 (↑q)) = I1
      have hKf : ∀ k j, ¬ (k = 57 ∧ j = 5) → I1 k j = I k j := fun k j hk => by rw [← hM]; exact x_up_far hk
      have hKv : I1 57 5 = (↑q) := by rw [← hM]; exact x_up_at _ _ _ _
      have hF1 : ∀ k j, ¬ ((92 ≤ k ∧ k ≤ 102) ∨ (k = 57 ∧ (j = 5 ∨ j = 6)) ∨ (k = 59 ∧ j < 5) ∨ (67 ≤ k ∧ k ≤ 84 ∧ j = 3)) → I1 k j = I k j := fun k j hk => hKf k j (by omega)
      have hpl : sp_pl (sp_D kd vv vo ba ro cd we en cc qv c n ag) (wh i) (nu i) s = (s.1, (q : Int), s.2.2) := by unfold sp_pl; rw [if_neg (by omega), if_neg (by omega), if_neg (by omega), hq]
      have hS1 := hS.eg (e := (q : Int)) (by omega) hKv hKf
      have hsu : (sp_ps (sp_D kd vv vo ba ro cd we en cc qv c n ag) wh nu (m - i) i s) = (sp_ps (sp_D kd vv vo ba ro cd we en cc qv c n ag) wh nu (m - (i + 1)) (i + 1) (sp_pl (sp_D kd vv vo ba ro cd we en cc qv c n ag) (wh i) (nu i) s)) := by rw [show m - i = (m - (i + 1)) + 1 by omega]; rfl
      rw [← hpl] at hS1
      have hse1 := sp_pl_se (D := (sp_D kd vv vo ba ro cd we en cc qv c n ag)) (w := wh i) (k := nu i) (s := s)
      refine ex_pm _ (fun i => by rcases i with _ | _ | _ | _ | _ | _ | _ | _ | _ | i <;> first | (right; rfl) | (left; rfl)) (lp_Gend (i + 1) (by omega) _ I1 hS1 (hI.pl (fun hw => (p3 hw).2.1)) (by omega) (hX.fr (fun k j a b => hF1 _ _ (by omega))) (by rw [hF1 _ _ (by omega)]; exact ht) (by rw [hF1 _ _ (by omega)]; exact hn) hn5 (fun k hk => by rw [hF1 _ _ (by omega)]; exact hag k hk) (hP.fr (fun k j a b => hF1 _ _ (by omega))) (fun I' g1 g2 => ?_))
      rw [← hsu] at g1
      exact kk I' g1 (fun k j hk => by rw [g2 k j hk, hF1 k j hk])
    · refine ex_st 3 (pc' := 56) (ls' := [(2, xi (↑i)), (0, xr 0), (1, xi w1)]) (st' := [xr 57, xr 0]) rfl ?_
      refine ex_callQ (ct_G_goOne (L := L) (W := 57) WS.mk57 rfl rfl hS hI (by omega) hX ht hn hn5 hag) (by decide) rfl ⟨rfl, rfl, rfl⟩ ⟨Nat.le_of_ble_eq_true rfl, rfl, rfl⟩ (Nat.le_of_ble_eq_true rfl) rfl (fun ra m2 hQ => ?_)
      obtain ⟨rfl, I1, rfl, hS1, hF0⟩ := hQ
      have hF1 : ∀ k j, ¬ ((92 ≤ k ∧ k ≤ 102) ∨ (k = 57 ∧ (j = 5 ∨ j = 6)) ∨ (k = 59 ∧ j < 5) ∨ (67 ≤ k ∧ k ≤ 84 ∧ j = 3)) → I1 k j = I k j := fun k j hk => hF0 k j (by unfold GFW; omega)
      have hpl : sp_pl (sp_D kd vv vo ba ro cd we en cc qv c n ag) (wh i) (nu i) s = sp_go (sp_D kd vv vo ba ro cd we en cc qv c n ag) s := by unfold sp_pl; rw [if_pos (by omega)]
      refine ex_st 3 (pc' := 22) (ls' := [(2, xi ((↑i) + 1)), (0, xr 0), (1, xi w1)]) (st' := []) rfl ?_
      have hsu : (sp_ps (sp_D kd vv vo ba ro cd we en cc qv c n ag) wh nu (m - i) i s) = (sp_ps (sp_D kd vv vo ba ro cd we en cc qv c n ag) wh nu (m - (i + 1)) (i + 1) (sp_pl (sp_D kd vv vo ba ro cd we en cc qv c n ag) (wh i) (nu i) s)) := by rw [show m - i = (m - (i + 1)) + 1 by omega]; rfl
      rw [← hpl] at hS1
      have hse1 := sp_pl_se (D := (sp_D kd vv vo ba ro cd we en cc qv c n ag)) (w := wh i) (k := nu i) (s := s)
      refine ex_pm _ (fun i => by rcases i with _ | _ | _ | _ | _ | _ | _ | _ | _ | i <;> first | (right; rfl) | (left; rfl)) (lp_Gend (i + 1) (by omega) _ I1 hS1 (hI.pl (fun hw => (p3 hw).2.1)) (by omega) (hX.fr (fun k j a b => hF1 _ _ (by omega))) (by rw [hF1 _ _ (by omega)]; exact ht) (by rw [hF1 _ _ (by omega)]; exact hn) hn5 (fun k hk => by rw [hF1 _ _ (by omega)]; exact hag k hk) (hP.fr (fun k j a b => hF1 _ _ (by omega))) (fun I' g1 g2 => ?_))
      rw [← hsu] at g1
      exact kk I' g1 (fun k j hk => by rw [g2 k j hk, hF1 k j hk])
termination_by m - i
decreasing_by all_goals (omega)
set_option maxRecDepth 8000 in
set_option maxHeartbeats 2000000 in
theorem op_ends_0 {sc : List Int} {I : Nat → Nat → Int} {L : Nat → Nat → Int64} (hR : Rl I L) : x_PQ sc xN_G_ends [xr 0, xi 0] xN_m_ends [xr 143, xi 0] (xSH, I, L) := by
  obtain ⟨⟨hNs, hNo, hNa, hNb, hNr, hNd, hNg, hNe, hNp, hNk⟩, hI, hT, hX, hC, hH, hQ⟩ := id hR
  have hs := hNs
  unfold RNs at hs
  obtain ⟨c, kd, vv, vo, aw, ba, ro, egg, se, hWW, hM⟩ := hR.vw
  have hT2 := hT
  unfold RT at hT2
  obtain ⟨T, nn, cc, cd, we, en, qv, hXt⟩ := RT.tr hT (t := I 143 13) (by omega) (by omega)
  have hX2 := id hXt
  obtain ⟨u1, u2, u3, u4, u5, u6, u7, u8, u9, u10⟩ := hX2
  have hMT := u10 rfl
  obtain ⟨g, hg1, hg, hgs, hgp⟩ := hM.pres
  have hI17 : I 1 7 = I 143 13 := by omega
  have hs64 := sp_mask64 (sp_nz aw) (n := c) (by have := hWW.2.1; omega)
  have hsN : sp_mask (sp_nz aw) c = (((sp_mask (sp_nz aw) c).toNat : Nat) : Int) := by have := (sp_mask_bd (sp_nz aw) c).1; omega
  obtain ⟨hg_1, hg_2, hg_3, hg_4, hg_5, hg_6⟩ := id hNg
  obtain ⟨n, hn⟩ := Int.eq_ofNat_of_zero_le hg_2
  obtain ⟨ag, hag0⟩ : ∃ ag : Nat → Nat, ∀ k, ag k = (I 150 k).toNat := ⟨_, fun _ => rfl⟩
  have hag : ∀ k, k < n → I 150 k = (ag k : Int) ∧ ag k < 5 := fun k hk => by have h1 := hg_5 k (by omega); have h2 := hag0 k; omega
  have hvo : ∀ p, p < c → 0 ≤ vo p ∧ vo p ≤ 9 := fun p hp => (hM.2.2.2.2.2.2.2 p hp).2.2.2.2.2.1
  obtain ⟨s0, hs0⟩ : ∃ s0 : St4, s0 = (aw, egg, se, fun x => I 149 x) := ⟨_, rfl⟩
  have hSW0 : SW I 1 c kd vv vo ba ro s0 := by subst hs0; exact ⟨hWW, fun x hx => (hNd x hx).1⟩
  have hSM0 : SM I c kd vv vo ba ro s0 := by subst hs0; exact ⟨hM, fun x hx => rfl⟩
  have hegg := hM.2.2.1
  have hse0 := hM.2.2.2.2.1
  have hSI0 : SI s0 := by subst hs0; exact ⟨fun x hx => by have := hNd x hx; show 0 ≤ I 149 x ∧ I 149 x ≤ (se : Int); omega, by show 0 ≤ egg; omega, by show egg ≤ 9; omega⟩
  have hs0e : s0.2.2.1 = se := by subst hs0; rfl
  have hn5 : n ≤ 5 := by omega
  have hag1 : ∀ k, k < n → I 4 k = (ag k : Int) ∧ ag k < 5 := fun k hk => by rw [hg_4 k (by omega)]; exact hag k hk
  have hn1 : I 1 4 = (n : Int) := by omega
  have hb01 : ∀ p, p < 6 → I (11 + 3 * p) 3 = 0 ∨ I (11 + 3 * p) 3 = 1 := fun p hp => by rw [hNa.1 p hp]; exact x_b01 _
  have hze : 0 ≤ I 5 2 ∧ I 5 2 ≤ 5 := by have h1 := hNe.1; have h2 := hNe.2.1; have h3 := hNe.2.2.1; omega
  have hzp : 0 ≤ I 7 2 ∧ I 7 2 ≤ 10 := by have h1 := hNp.1; have h2 := hNp.2.1; have h3 := hNp.2.2.1; omega
  have hzk : 0 ≤ I 9 2 ∧ I 9 2 ≤ 8 := by have h1 := hNk.1; have h2 := hNk.2.1; have h3 := hNk.2.2.1; omega
  obtain ⟨m, wh, nu, hPm⟩ := hNp.pl
  have hPm2 := hPm.2.1
  have hSIf := SI.ps (D := (sp_D kd vv vo ba ro cd we en cc qv c n ag)) (wh := wh) (nu := nu) m 0 hSI0 (fun y hy hw => ((hPm.2.2 y (by omega)).2.2 hw).2.1)
  refine x_CQ.of (M := xM_G_ends) rfl (Nat.le_of_ble_eq_true rfl) ?_
  refine ex_st 1 (pc' := 1) (ls' := [(0, xr 0), (1, xi 0)]) (st' := [xi 0]) rfl ?_
  refine ex_call (ct_G_isZeroOrOne (by first | omega | (constructor <;> omega) | assumption)) (by decide) rfl ⟨rfl, rfl, rfl⟩ ⟨Nat.le_of_ble_eq_true rfl, rfl, rfl⟩ (Nat.le_of_ble_eq_true rfl) rfl ?_
  refine ex_bne rfl (fun h0 => ?_) (fun h0 => ?_)
  · refine ex_st 4 (pc' := 17) (ls' := [(0, xr 0), (1, xi 0)]) (st' := [xr 1, xr 57]) rfl ?_
    refine ex_callQ (ct_W_become57_1 (L := L) hb01 hze hzp hzk) (by decide) rfl ⟨rfl, rfl, rfl⟩ ⟨Nat.le_of_ble_eq_true rfl, rfl, rfl⟩ (Nat.le_of_ble_eq_true rfl) rfl (fun ra m2 hQ => ?_)
    obtain ⟨rfl, J0, rfl, hWB⟩ := hQ
    have hJ0 : ∀ k j, ¬ (57 ≤ k ∧ k ≤ 84) → J0 k j = I k j := hWB.2.2.2.2.2.2.2.2
    have hSW0b := WB57.sw hWB hSW0
    have hXt0 := hXt.fr (I' := J0) (fun k j a b => hJ0 k j (by omega))
    have hI57 : J0 57 7 = I 143 13 := by rw [hWB.2.1.2.2.2.2]; exact hI17
    have hn57 : J0 57 4 = (n : Int) := by rw [hWB.2.1.2.1]; exact hn1
    have hag57 : ∀ k, k < n → J0 60 k = (ag k : Int) ∧ ag k < 5 := fun k hk => by rw [hWB.2.2.2.1 k (by omega)]; exact hag1 k hk
    refine ex_st 2 (pc' := 22) (ls' := [(2, xi 0), (0, xr 0), (1, xi 0)]) (st' := []) rfl ?_
    refine lp_Gend (L := L) (w1 := 0) 0 (Nat.zero_le _) s0 J0 hSW0b hSI0 (by omega) hXt0 hI57 hn57 hn5 hag57 (WB57.pl hWB hNp hPm) (fun J hSJ hJ1 => ?_)
    rw [show m - 0 = m from rfl] at hSJ
    have hJ : ∀ k j, ¬ ((57 ≤ k ∧ k ≤ 84) ∨ (92 ≤ k ∧ k ≤ 103)) → J k j = I k j := fun k j hk => by rw [hJ1 _ _ (by omega), hJ0 _ _ (by omega)]
    have hJ5 : J 57 5 = (sp_ps (sp_D kd vv vo ba ro cd we en cc qv c n ag) wh nu m 0 s0).2.1 := hSJ.1.2.2.1
    have hfx : ∀ x, x < 5 → x_R ((sp_ps (sp_D kd vv vo ba ro cd we en cc qv c n ag) wh nu m 0 s0).2.2.2 x) := fun x hx => by have h8 := hSIf.1 x hx; have h9 : (sp_ps (sp_D kd vv vo ba ro cd we en cc qv c n ag) wh nu m 0 s0).2.2.1 < 100000 := hSJ.1.2.2.2.2.2.1; constructor <;> omega
    have hPb1 : J 143 1 = I 143 1 := hJ _ _ (by omega)
    have hPb3 : J 143 3 = I 143 3 := hJ _ _ (by omega)
    have hPb4 : J 143 4 = I 143 4 := hJ _ _ (by omega)
    have hPbd : ∀ x, x < 5 → J 149 x = I 149 x := fun x hx => hJ _ _ (by omega)
    refine ex_st 1 (pc' := 100) (ls' := [(2, xi (↑m)), (0, xr 0), (1, xi 0)]) (st' := [xi 0]) rfl ?_
    refine ex_st 1 (pc' := 103) (ls' := [(2, xi (↑m)), (0, xr 0), (1, xi 0)]) (st' := []) rfl ?_
    refine ex_st 3 (pc' := 110) (ls' := [(2, xi (↑m)), (0, xr 0), (1, xi 0)]) (st' := [xi (J 57 5)]) rfl ?_
    rw [hJ5]
    refine ex_st 1 (pc' := 120) (ls' := [(2, xi (↑m)), (0, xr 0), (1, xi 0)]) (st' := [xi ((sp_ps (sp_D kd vv vo ba ro cd we en cc qv c n ag) wh nu m 0 s0).2.1)]) rfl ?_
    refine ex_reti rfl rfl ?_
    refine x_CQ.of (M := xM_m_ends) rfl (Nat.le_of_ble_eq_true rfl) ?_
    refine ex_st 4 (pc' := 4) (ls' := [(0, xr 143), (1, xi 0)]) (st' := [xi 1, xi 0, xi 0, xr 143]) rfl ?_
    refine ex_call (ct_m_in (by first | omega | (constructor <;> omega) | assumption) (by first | omega | (constructor <;> omega) | assumption) (by first | omega | (constructor <;> omega) | assumption)) (by decide) rfl ⟨rfl, rfl, rfl⟩ ⟨Nat.le_of_ble_eq_true rfl, rfl, rfl⟩ (Nat.le_of_ble_eq_true rfl) rfl ?_
    refine ex_bne rfl (fun h1 => ?_) (fun h1 => ?_)
    · refine ex_st 1 (pc' := 13) (ls' := [(0, xr 143), (1, xi 0)]) (st' := [xr 143]) rfl ?_
      refine ex_callQ (ct_m_save (L := L)) (by decide) rfl ⟨rfl, rfl, rfl⟩ ⟨Nat.le_of_ble_eq_true rfl, rfl, rfl⟩ (Nat.le_of_ble_eq_true rfl) rfl (fun ra m2 hQ => ?_)
      obtain ⟨rfl, K1, rfl, k32, k33, k34, k35, k163, hK1⟩ := hQ
      have hK1I : ∀ k j, ¬ ((57 ≤ k ∧ k ≤ 84) ∨ (92 ≤ k ∧ k ≤ 103) ∨ (k = 143 ∧ (j = 32 ∨ j = 33 ∨ j = 34 ∨ j = 35)) ∨ (k = 163 ∧ j < 5)) → K1 k j = I k j := fun k j hk => by rw [hK1 _ _ (by omega), hJ _ _ (by omega)]
      have hSMK : SM K1 c kd vv vo ba ro s0 := ⟨hSM0.1.set (fun k j a b => hK1I k j (by omega)) (hK1I _ _ (by omega)) (hK1I _ _ (by omega)) ⟨by rw [hK1I _ _ (by omega)]; exact hSM0.1.2.2.1, hSM0.1.2.2.2.1⟩ ⟨by rw [hK1I _ _ (by omega)]; exact hSM0.1.2.2.2.2.1, hSM0.1.2.2.2.2.2.1⟩, fun x hx => by rw [hK1I _ _ (by omega)]; exact hSM0.2 x hx⟩
      have hTK := hMT.fr3 (I' := K1) (hK1I _ _ (by omega)) (fun k j a b => hK1I k j (by omega))
      have hnK : K1 143 2 = (n : Int) := by rw [hK1I _ _ (by omega)]; exact hn
      have hagK : ∀ k, k < n → K1 150 k = (ag k : Int) ∧ ag k < 5 := fun k hk => by rw [hK1I _ _ (by omega)]; exact hag k hk
      refine ex_st 2 (pc' := 18) (ls' := [(2, xi 0), (0, xr 143), (1, xi 0)]) (st' := []) rfl ?_
      refine lp_mend (L := L) (w1 := 0) 0 (Nat.zero_le _) s0 K1 hSMK hSI0 (by omega) hTK hnK hn5 hagK (md := 2000000000) k32 (by decide) (by omega) (hPm.fr (hK1I _ _ (by omega)) (fun k j a b => hK1I _ _ (by omega))) (fun K2 hSK hK2 => ?_)
      rw [show m - 0 = m from rfl] at hSK
      have hK5 : K2 143 3 = (sp_ps (sp_D kd vv vo ba ro cd we en cc qv c n ag) wh nu m 0 s0).2.1 := hSK.1.2.2.1
      refine ex_st 4 (pc' := 52) (ls' := [(3, xi 0), (2, xi 0), (0, xr 143), (1, xi 0)]) (st' := []) rfl ?_
      refine lp_mset (L := L) (w1 := 0) (f := (sp_ps (sp_D kd vv vo ba ro cd we en cc qv c n ag) wh nu m 0 s0).2.2.2) (fun x hx => ⟨hSK.2 x hx, hfx x hx⟩) 0 (by decide) 0 rfl ?_
      refine ex_st 1 (pc' := 83) (ls' := [(3, xi 5), (2, xi (sp_mask (sp_pos (sp_ps (sp_D kd vv vo ba ro cd we en cc qv c n ag) wh nu m 0 s0).2.2.2) 5)), (0, xr 143), (1, xi 0)]) (st' := [xi 0]) rfl ?_
      refine ex_st 1 (pc' := 86) (ls' := [(3, xi 5), (2, xi (sp_mask (sp_pos (sp_ps (sp_D kd vv vo ba ro cd we en cc qv c n ag) wh nu m 0 s0).2.2.2) 5)), (0, xr 143), (1, xi 0)]) (st' := []) rfl ?_
      refine ex_st 2 (pc' := 90) (ls' := [(3, xi 5), (2, xi (sp_mask (sp_pos (sp_ps (sp_D kd vv vo ba ro cd we en cc qv c n ag) wh nu m 0 s0).2.2.2) 5)), (0, xr 143), (1, xi 0)]) (st' := [xi (K2 143 3)]) rfl ?_
      rw [hK5]
      refine ex_st 3 (pc' := 96) (ls' := [(3, xi ((sp_ps (sp_D kd vv vo ba ro cd we en cc qv c n ag) wh nu m 0 s0).2.1)), (2, xi (sp_mask (sp_pos (sp_ps (sp_D kd vv vo ba ro cd we en cc qv c n ag) wh nu m 0 s0).2.2.2) 5)), (0, xr 143), (1, xi 0)]) (st' := [xr 143]) rfl ?_
      refine ex_callQ (ct_m_putBack (L := L)) (by decide) rfl ⟨rfl, rfl, rfl⟩ ⟨Nat.le_of_ble_eq_true rfl, rfl, rfl⟩ (Nat.le_of_ble_eq_true rfl) rfl (fun ra m2 hQ => ?_)
      obtain ⟨rfl, K3, rfl, b32, b1, b3, b4, bd, hK3⟩ := hQ
      have hRl : Rl K3 L := hR.back (fun k j hk => by unfold x_scr at hk; rw [hK3 _ _ (by omega), hK2 _ _ (by omega), hK1I _ _ (by omega)]) b32 (by rw [b1, hK2 _ _ (by omega), k33, hPb1]) (by rw [b3, hK2 _ _ (by omega), k34, hPb3]) (by rw [b4, hK2 _ _ (by omega), k35, hPb4]) (fun x hx => by rw [bd x hx, hK2 _ _ (by omega), k163 x hx, hPbd x hx])
      refine ex_st 1 (pc' := 100) (ls' := [(3, xi ((sp_ps (sp_D kd vv vo ba ro cd we en cc qv c n ag) wh nu m 0 s0).2.1)), (2, xi (sp_mask (sp_pos (sp_ps (sp_D kd vv vo ba ro cd we en cc qv c n ag) wh nu m 0 s0).2.2.2) 5)), (0, xr 143), (1, xi 0)]) (st' := [xi ((sp_ps (sp_D kd vv vo ba ro cd we en cc qv c n ag) wh nu m 0 s0).2.1)]) rfl ?_
      refine ex_reti rfl rfl ?_
      exact ⟨rfl, K3, _, rfl, hRl⟩
    · exfalso; omega
  · exfalso; omega
set_option maxRecDepth 8000 in
set_option maxHeartbeats 2000000 in
theorem op_ends_1 {sc : List Int} {I : Nat → Nat → Int} {L : Nat → Nat → Int64} (hR : Rl I L) : x_PQ sc xN_G_ends [xr 0, xi 1] xN_m_ends [xr 143, xi 1] (xSH, I, L) := by
  obtain ⟨⟨hNs, hNo, hNa, hNb, hNr, hNd, hNg, hNe, hNp, hNk⟩, hI, hT, hX, hC, hH, hQ⟩ := id hR
  have hs := hNs
  unfold RNs at hs
  obtain ⟨c, kd, vv, vo, aw, ba, ro, egg, se, hWW, hM⟩ := hR.vw
  have hT2 := hT
  unfold RT at hT2
  obtain ⟨T, nn, cc, cd, we, en, qv, hXt⟩ := RT.tr hT (t := I 143 13) (by omega) (by omega)
  have hX2 := id hXt
  obtain ⟨u1, u2, u3, u4, u5, u6, u7, u8, u9, u10⟩ := hX2
  have hMT := u10 rfl
  obtain ⟨g, hg1, hg, hgs, hgp⟩ := hM.pres
  have hI17 : I 1 7 = I 143 13 := by omega
  have hs64 := sp_mask64 (sp_nz aw) (n := c) (by have := hWW.2.1; omega)
  have hsN : sp_mask (sp_nz aw) c = (((sp_mask (sp_nz aw) c).toNat : Nat) : Int) := by have := (sp_mask_bd (sp_nz aw) c).1; omega
  obtain ⟨hg_1, hg_2, hg_3, hg_4, hg_5, hg_6⟩ := id hNg
  obtain ⟨n, hn⟩ := Int.eq_ofNat_of_zero_le hg_2
  obtain ⟨ag, hag0⟩ : ∃ ag : Nat → Nat, ∀ k, ag k = (I 150 k).toNat := ⟨_, fun _ => rfl⟩
  have hag : ∀ k, k < n → I 150 k = (ag k : Int) ∧ ag k < 5 := fun k hk => by have h1 := hg_5 k (by omega); have h2 := hag0 k; omega
  have hvo : ∀ p, p < c → 0 ≤ vo p ∧ vo p ≤ 9 := fun p hp => (hM.2.2.2.2.2.2.2 p hp).2.2.2.2.2.1
  obtain ⟨s0, hs0⟩ : ∃ s0 : St4, s0 = (aw, egg, se, fun x => I 149 x) := ⟨_, rfl⟩
  have hSW0 : SW I 1 c kd vv vo ba ro s0 := by subst hs0; exact ⟨hWW, fun x hx => (hNd x hx).1⟩
  have hSM0 : SM I c kd vv vo ba ro s0 := by subst hs0; exact ⟨hM, fun x hx => rfl⟩
  have hegg := hM.2.2.1
  have hse0 := hM.2.2.2.2.1
  have hSI0 : SI s0 := by subst hs0; exact ⟨fun x hx => by have := hNd x hx; show 0 ≤ I 149 x ∧ I 149 x ≤ (se : Int); omega, by show 0 ≤ egg; omega, by show egg ≤ 9; omega⟩
  have hs0e : s0.2.2.1 = se := by subst hs0; rfl
  have hn5 : n ≤ 5 := by omega
  have hag1 : ∀ k, k < n → I 4 k = (ag k : Int) ∧ ag k < 5 := fun k hk => by rw [hg_4 k (by omega)]; exact hag k hk
  have hn1 : I 1 4 = (n : Int) := by omega
  have hb01 : ∀ p, p < 6 → I (11 + 3 * p) 3 = 0 ∨ I (11 + 3 * p) 3 = 1 := fun p hp => by rw [hNa.1 p hp]; exact x_b01 _
  have hze : 0 ≤ I 5 2 ∧ I 5 2 ≤ 5 := by have h1 := hNe.1; have h2 := hNe.2.1; have h3 := hNe.2.2.1; omega
  have hzp : 0 ≤ I 7 2 ∧ I 7 2 ≤ 10 := by have h1 := hNp.1; have h2 := hNp.2.1; have h3 := hNp.2.2.1; omega
  have hzk : 0 ≤ I 9 2 ∧ I 9 2 ≤ 8 := by have h1 := hNk.1; have h2 := hNk.2.1; have h3 := hNk.2.2.1; omega
  obtain ⟨m, wh, nu, hPm⟩ := hNp.pl
  have hPm2 := hPm.2.1
  have hSIf := SI.ps (D := (sp_D kd vv vo ba ro cd we en cc qv c n ag)) (wh := wh) (nu := nu) m 0 hSI0 (fun y hy hw => ((hPm.2.2 y (by omega)).2.2 hw).2.1)
  refine x_CQ.of (M := xM_G_ends) rfl (Nat.le_of_ble_eq_true rfl) ?_
  refine ex_st 1 (pc' := 1) (ls' := [(0, xr 0), (1, xi 1)]) (st' := [xi 1]) rfl ?_
  refine ex_call (ct_G_isZeroOrOne (by first | omega | (constructor <;> omega) | assumption)) (by decide) rfl ⟨rfl, rfl, rfl⟩ ⟨Nat.le_of_ble_eq_true rfl, rfl, rfl⟩ (Nat.le_of_ble_eq_true rfl) rfl ?_
  refine ex_bne rfl (fun h0 => ?_) (fun h0 => ?_)
  · refine ex_st 4 (pc' := 17) (ls' := [(0, xr 0), (1, xi 1)]) (st' := [xr 1, xr 57]) rfl ?_
    refine ex_callQ (ct_W_become57_1 (L := L) hb01 hze hzp hzk) (by decide) rfl ⟨rfl, rfl, rfl⟩ ⟨Nat.le_of_ble_eq_true rfl, rfl, rfl⟩ (Nat.le_of_ble_eq_true rfl) rfl (fun ra m2 hQ => ?_)
    obtain ⟨rfl, J0, rfl, hWB⟩ := hQ
    have hJ0 : ∀ k j, ¬ (57 ≤ k ∧ k ≤ 84) → J0 k j = I k j := hWB.2.2.2.2.2.2.2.2
    have hSW0b := WB57.sw hWB hSW0
    have hXt0 := hXt.fr (I' := J0) (fun k j a b => hJ0 k j (by omega))
    have hI57 : J0 57 7 = I 143 13 := by rw [hWB.2.1.2.2.2.2]; exact hI17
    have hn57 : J0 57 4 = (n : Int) := by rw [hWB.2.1.2.1]; exact hn1
    have hag57 : ∀ k, k < n → J0 60 k = (ag k : Int) ∧ ag k < 5 := fun k hk => by rw [hWB.2.2.2.1 k (by omega)]; exact hag1 k hk
    refine ex_st 2 (pc' := 22) (ls' := [(2, xi 0), (0, xr 0), (1, xi 1)]) (st' := []) rfl ?_
    refine lp_Gend (L := L) (w1 := 1) 0 (Nat.zero_le _) s0 J0 hSW0b hSI0 (by omega) hXt0 hI57 hn57 hn5 hag57 (WB57.pl hWB hNp hPm) (fun J hSJ hJ1 => ?_)
    rw [show m - 0 = m from rfl] at hSJ
    have hJ : ∀ k j, ¬ ((57 ≤ k ∧ k ≤ 84) ∨ (92 ≤ k ∧ k ≤ 103)) → J k j = I k j := fun k j hk => by rw [hJ1 _ _ (by omega), hJ0 _ _ (by omega)]
    have hJ5 : J 57 5 = (sp_ps (sp_D kd vv vo ba ro cd we en cc qv c n ag) wh nu m 0 s0).2.1 := hSJ.1.2.2.1
    have hfx : ∀ x, x < 5 → x_R ((sp_ps (sp_D kd vv vo ba ro cd we en cc qv c n ag) wh nu m 0 s0).2.2.2 x) := fun x hx => by have h8 := hSIf.1 x hx; have h9 : (sp_ps (sp_D kd vv vo ba ro cd we en cc qv c n ag) wh nu m 0 s0).2.2.1 < 100000 := hSJ.1.2.2.2.2.2.1; constructor <;> omega
    have hPb1 : J 143 1 = I 143 1 := hJ _ _ (by omega)
    have hPb3 : J 143 3 = I 143 3 := hJ _ _ (by omega)
    have hPb4 : J 143 4 = I 143 4 := hJ _ _ (by omega)
    have hPbd : ∀ x, x < 5 → J 149 x = I 149 x := fun x hx => hJ _ _ (by omega)
    refine ex_st 1 (pc' := 100) (ls' := [(2, xi (↑m)), (0, xr 0), (1, xi 1)]) (st' := [xi 1]) rfl ?_
    refine ex_st 1 (pc' := 113) (ls' := [(2, xi (↑m)), (0, xr 0), (1, xi 1)]) (st' := []) rfl ?_
    refine ex_st 2 (pc' := 117) (ls' := [(2, xi (↑m)), (0, xr 0), (1, xi 1)]) (st' := [xr 57]) rfl ?_
    refine ex_call (ct_W_thingsDone (W := 57) rfl rfl (by decide) (f := (sp_ps (sp_D kd vv vo ba ro cd we en cc qv c n ag) wh nu m 0 s0).2.2.2) (fun j hj => ⟨hSJ.2 j hj, hfx j hj⟩)) (by decide) rfl ⟨rfl, rfl, rfl⟩ ⟨Nat.le_of_ble_eq_true rfl, rfl, rfl⟩ (Nat.le_of_ble_eq_true rfl) rfl ?_
    refine ex_reti rfl rfl ?_
    refine x_CQ.of (M := xM_m_ends) rfl (Nat.le_of_ble_eq_true rfl) ?_
    refine ex_st 4 (pc' := 4) (ls' := [(0, xr 143), (1, xi 1)]) (st' := [xi 1, xi 0, xi 1, xr 143]) rfl ?_
    refine ex_call (ct_m_in (by first | omega | (constructor <;> omega) | assumption) (by first | omega | (constructor <;> omega) | assumption) (by first | omega | (constructor <;> omega) | assumption)) (by decide) rfl ⟨rfl, rfl, rfl⟩ ⟨Nat.le_of_ble_eq_true rfl, rfl, rfl⟩ (Nat.le_of_ble_eq_true rfl) rfl ?_
    refine ex_bne rfl (fun h1 => ?_) (fun h1 => ?_)
    · refine ex_st 1 (pc' := 13) (ls' := [(0, xr 143), (1, xi 1)]) (st' := [xr 143]) rfl ?_
      refine ex_callQ (ct_m_save (L := L)) (by decide) rfl ⟨rfl, rfl, rfl⟩ ⟨Nat.le_of_ble_eq_true rfl, rfl, rfl⟩ (Nat.le_of_ble_eq_true rfl) rfl (fun ra m2 hQ => ?_)
      obtain ⟨rfl, K1, rfl, k32, k33, k34, k35, k163, hK1⟩ := hQ
      have hK1I : ∀ k j, ¬ ((57 ≤ k ∧ k ≤ 84) ∨ (92 ≤ k ∧ k ≤ 103) ∨ (k = 143 ∧ (j = 32 ∨ j = 33 ∨ j = 34 ∨ j = 35)) ∨ (k = 163 ∧ j < 5)) → K1 k j = I k j := fun k j hk => by rw [hK1 _ _ (by omega), hJ _ _ (by omega)]
      have hSMK : SM K1 c kd vv vo ba ro s0 := ⟨hSM0.1.set (fun k j a b => hK1I k j (by omega)) (hK1I _ _ (by omega)) (hK1I _ _ (by omega)) ⟨by rw [hK1I _ _ (by omega)]; exact hSM0.1.2.2.1, hSM0.1.2.2.2.1⟩ ⟨by rw [hK1I _ _ (by omega)]; exact hSM0.1.2.2.2.2.1, hSM0.1.2.2.2.2.2.1⟩, fun x hx => by rw [hK1I _ _ (by omega)]; exact hSM0.2 x hx⟩
      have hTK := hMT.fr3 (I' := K1) (hK1I _ _ (by omega)) (fun k j a b => hK1I k j (by omega))
      have hnK : K1 143 2 = (n : Int) := by rw [hK1I _ _ (by omega)]; exact hn
      have hagK : ∀ k, k < n → K1 150 k = (ag k : Int) ∧ ag k < 5 := fun k hk => by rw [hK1I _ _ (by omega)]; exact hag k hk
      refine ex_st 2 (pc' := 18) (ls' := [(2, xi 0), (0, xr 143), (1, xi 1)]) (st' := []) rfl ?_
      refine lp_mend (L := L) (w1 := 1) 0 (Nat.zero_le _) s0 K1 hSMK hSI0 (by omega) hTK hnK hn5 hagK (md := 2000000000) k32 (by decide) (by omega) (hPm.fr (hK1I _ _ (by omega)) (fun k j a b => hK1I _ _ (by omega))) (fun K2 hSK hK2 => ?_)
      rw [show m - 0 = m from rfl] at hSK
      have hK5 : K2 143 3 = (sp_ps (sp_D kd vv vo ba ro cd we en cc qv c n ag) wh nu m 0 s0).2.1 := hSK.1.2.2.1
      refine ex_st 4 (pc' := 52) (ls' := [(3, xi 0), (2, xi 0), (0, xr 143), (1, xi 1)]) (st' := []) rfl ?_
      refine lp_mset (L := L) (w1 := 1) (f := (sp_ps (sp_D kd vv vo ba ro cd we en cc qv c n ag) wh nu m 0 s0).2.2.2) (fun x hx => ⟨hSK.2 x hx, hfx x hx⟩) 0 (by decide) 0 rfl ?_
      refine ex_st 1 (pc' := 83) (ls' := [(3, xi 5), (2, xi (sp_mask (sp_pos (sp_ps (sp_D kd vv vo ba ro cd we en cc qv c n ag) wh nu m 0 s0).2.2.2) 5)), (0, xr 143), (1, xi 1)]) (st' := [xi 1]) rfl ?_
      refine ex_st 1 (pc' := 93) (ls' := [(3, xi 5), (2, xi (sp_mask (sp_pos (sp_ps (sp_D kd vv vo ba ro cd we en cc qv c n ag) wh nu m 0 s0).2.2.2) 5)), (0, xr 143), (1, xi 1)]) (st' := []) rfl ?_
      refine ex_st 3 (pc' := 96) (ls' := [(3, xi (sp_mask (sp_pos (sp_ps (sp_D kd vv vo ba ro cd we en cc qv c n ag) wh nu m 0 s0).2.2.2) 5)), (2, xi (sp_mask (sp_pos (sp_ps (sp_D kd vv vo ba ro cd we en cc qv c n ag) wh nu m 0 s0).2.2.2) 5)), (0, xr 143), (1, xi 1)]) (st' := [xr 143]) rfl ?_
      refine ex_callQ (ct_m_putBack (L := L)) (by decide) rfl ⟨rfl, rfl, rfl⟩ ⟨Nat.le_of_ble_eq_true rfl, rfl, rfl⟩ (Nat.le_of_ble_eq_true rfl) rfl (fun ra m2 hQ => ?_)
      obtain ⟨rfl, K3, rfl, b32, b1, b3, b4, bd, hK3⟩ := hQ
      have hRl : Rl K3 L := hR.back (fun k j hk => by unfold x_scr at hk; rw [hK3 _ _ (by omega), hK2 _ _ (by omega), hK1I _ _ (by omega)]) b32 (by rw [b1, hK2 _ _ (by omega), k33, hPb1]) (by rw [b3, hK2 _ _ (by omega), k34, hPb3]) (by rw [b4, hK2 _ _ (by omega), k35, hPb4]) (fun x hx => by rw [bd x hx, hK2 _ _ (by omega), k163 x hx, hPbd x hx])
      refine ex_st 1 (pc' := 100) (ls' := [(3, xi (sp_mask (sp_pos (sp_ps (sp_D kd vv vo ba ro cd we en cc qv c n ag) wh nu m 0 s0).2.2.2) 5)), (2, xi (sp_mask (sp_pos (sp_ps (sp_D kd vv vo ba ro cd we en cc qv c n ag) wh nu m 0 s0).2.2.2) 5)), (0, xr 143), (1, xi 1)]) (st' := [xi (sp_mask (sp_pos (sp_ps (sp_D kd vv vo ba ro cd we en cc qv c n ag) wh nu m 0 s0).2.2.2) 5)]) rfl ?_
      refine ex_reti rfl rfl ?_
      exact ⟨rfl, K3, _, rfl, hRl⟩
    · exfalso; omega
  · exfalso; omega
theorem op_ends_x {sc : List Int} {I : Nat → Nat → Int} {L : Nat → Nat → Int64} (hR : Rl I L) {w : Int} (hw : x_R w) (h : ¬ (w = 0 ∨ w = 1)) : x_PQ sc xN_G_ends [xr 0, xi w] xN_m_ends [xr 143, xi w] (xSH, I, L) := by
  obtain ⟨⟨hNs, hNo, hNa, hNb, hNr, hNd, hNg, hNe, hNp, hNk⟩, hI, hT, hX, hC, hH, hQ⟩ := id hR
  have hs := hNs
  unfold RNs at hs
  refine x_CQ.of (M := xM_G_ends) rfl (Nat.le_of_ble_eq_true rfl) ?_
  refine ex_st 1 (pc' := 1) (ls' := [(0, xr 0), (1, xi w)]) (st' := [xi w]) rfl ?_
  refine ex_call (ct_G_isZeroOrOne (by first | omega | (constructor <;> omega) | assumption)) (by decide) rfl ⟨rfl, rfl, rfl⟩ ⟨Nat.le_of_ble_eq_true rfl, rfl, rfl⟩ (Nat.le_of_ble_eq_true rfl) rfl ?_
  refine ex_bne rfl (fun h0 => ?_) (fun h0 => ?_)
  · exfalso; omega
  · refine ex_st 1 (pc' := 8) (ls' := [(0, xr 0), (1, xi w)]) (st' := [xi (-1)]) rfl ?_
    refine ex_reti rfl rfl ?_
    refine x_CQ.of (M := xM_m_ends) rfl (Nat.le_of_ble_eq_true rfl) ?_
    refine ex_st 4 (pc' := 4) (ls' := [(0, xr 143), (1, xi w)]) (st' := [xi 1, xi 0, xi w, xr 143]) rfl ?_
    refine ex_call (ct_m_in (by first | omega | (constructor <;> omega) | assumption) (by first | omega | (constructor <;> omega) | assumption) (by first | omega | (constructor <;> omega) | assumption)) (by decide) rfl ⟨rfl, rfl, rfl⟩ ⟨Nat.le_of_ble_eq_true rfl, rfl, rfl⟩ (Nat.le_of_ble_eq_true rfl) rfl ?_
    refine ex_bne rfl (fun h1 => ?_) (fun h1 => ?_)
    · exfalso; omega
    · refine ex_st 1 (pc' := 11) (ls' := [(0, xr 143), (1, xi w)]) (st' := [xi (-1)]) rfl ?_
      refine ex_reti rfl rfl ?_
      exact ⟨x_req (by first | rfl | omega), _, _, rfl, hR⟩
theorem op_ends {sc : List Int} {I : Nat → Nat → Int} {L : Nat → Nat → Int64} (hR : Rl I L) {w : Int} (hw : x_R w) : x_PQ sc xN_G_ends [xr 0, xi w] xN_m_ends [xr 143, xi w] (xSH, I, L) := by
  by_cases h : w = 0 ∨ w = 1
  · rcases h with rfl | rfl
    · exact op_ends_0 hR
    · exact op_ends_1 hR
  · exact op_ends_x hR hw h
